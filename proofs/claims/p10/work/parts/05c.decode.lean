theorem dX14_init_425 : decode cX14_init 425 = .ok (.putfield 165, 3) := by decide +kernel
theorem dX14_init_428 : decode cX14_init 428 = .ok (.aload_n 0, 1) := by decide +kernel
theorem dX14_init_429 : decode cX14_init 429 = .ok (.bipush 8, 2) := by decide +kernel
theorem dX14_init_431 : decode cX14_init 431 = .ok (.newarray .int, 2) := by decide +kernel
theorem dX14_init_433 : decode cX14_init 433 = .ok (.putfield 169, 3) := by decide +kernel
theorem dX14_init_436 : decode cX14_init 436 = .ok (.aload_n 0, 1) := by decide +kernel
theorem dX14_init_437 : decode cX14_init 437 = .ok (.bipush 8, 2) := by decide +kernel
theorem dX14_init_439 : decode cX14_init 439 = .ok (.newarray .int, 2) := by decide +kernel
theorem dX14_init_441 : decode cX14_init 441 = .ok (.putfield 172, 3) := by decide +kernel
theorem dX14_init_444 : decode cX14_init 444 = .ok (.aload_n 0, 1) := by decide +kernel
theorem dX14_init_445 : decode cX14_init 445 = .ok (.bipush 8, 2) := by decide +kernel
theorem dX14_init_447 : decode cX14_init 447 = .ok (.newarray .long, 2) := by decide +kernel
theorem dX14_init_449 : decode cX14_init 449 = .ok (.putfield 175, 3) := by decide +kernel
theorem dX14_init_452 : decode cX14_init 452 = .ok (.aload_n 0, 1) := by decide +kernel
theorem dX14_init_453 : decode cX14_init 453 = .ok (.bipush 16, 2) := by decide +kernel
theorem dX14_init_455 : decode cX14_init 455 = .ok (.newarray .long, 2) := by decide +kernel
theorem dX14_init_457 : decode cX14_init 457 = .ok (.putfield 178, 3) := by decide +kernel
theorem dX14_init_460 : decode cX14_init 460 = .ok (.return_, 1) := by decide +kernel
theorem dX14_sign_0 : decode cX14_sign 0 = .ok (.aload_n 0, 1) := by decide +kernel
theorem dX14_sign_1 : decode cX14_sign 1 = .ok (.iconst 0, 1) := by decide +kernel
theorem dX14_sign_2 : decode cX14_sign 2 = .ok (.putfield 181, 3) := by decide +kernel
theorem dX14_sign_5 : decode cX14_sign 5 = .ok (.bipush 24, 2) := by decide +kernel
theorem dX14_sign_7 : decode cX14_sign 7 = .ok (.istore_n 2, 1) := by decide +kernel
theorem dX14_sign_8 : decode cX14_sign 8 = .ok (.iload_n 2, 1) := by decide +kernel
theorem dX14_sign_9 : decode cX14_sign 9 = .ok (.ifCond .lt 51, 3) := by decide +kernel
theorem dX14_sign_12 : decode cX14_sign 12 = .ok (.iload_n 1, 1) := by decide +kernel
theorem dX14_sign_13 : decode cX14_sign 13 = .ok (.iload_n 2, 1) := by decide +kernel
theorem dX14_sign_14 : decode cX14_sign 14 = .ok (.ishr, 1) := by decide +kernel
theorem dX14_sign_15 : decode cX14_sign 15 = .ok (.sipush 255, 3) := by decide +kernel
theorem dX14_sign_18 : decode cX14_sign 18 = .ok (.iand, 1) := by decide +kernel
theorem dX14_sign_19 : decode cX14_sign 19 = .ok (.istore_n 3, 1) := by decide +kernel
theorem dX14_sign_20 : decode cX14_sign 20 = .ok (.iload_n 3, 1) := by decide +kernel
theorem dX14_sign_21 : decode cX14_sign 21 = .ok (.ifCond .eq 33, 3) := by decide +kernel
theorem dX14_sign_24 : decode cX14_sign 24 = .ok (.aload_n 0, 1) := by decide +kernel
theorem dX14_sign_25 : decode cX14_sign 25 = .ok (.getfield 184, 3) := by decide +kernel
theorem dX14_sign_28 : decode cX14_sign 28 = .ok (.sipush 2000, 3) := by decide +kernel
theorem dX14_sign_31 : decode cX14_sign 31 = .ok (.if_icmp .ge 23, 3) := by decide +kernel
theorem dX14_sign_34 : decode cX14_sign 34 = .ok (.aload_n 0, 1) := by decide +kernel
theorem dX14_sign_35 : decode cX14_sign 35 = .ok (.getfield 124, 3) := by decide +kernel
theorem dX14_sign_38 : decode cX14_sign 38 = .ok (.aload_n 0, 1) := by decide +kernel
theorem dX14_sign_39 : decode cX14_sign 39 = .ok (.getfield 184, 3) := by decide +kernel
theorem dX14_sign_42 : decode cX14_sign 42 = .ok (.iload_n 3, 1) := by decide +kernel
theorem dX14_sign_43 : decode cX14_sign 43 = .ok (.iastore, 1) := by decide +kernel
theorem dX14_sign_44 : decode cX14_sign 44 = .ok (.aload_n 0, 1) := by decide +kernel
theorem dX14_sign_45 : decode cX14_sign 45 = .ok (.dup, 1) := by decide +kernel
theorem dX14_sign_46 : decode cX14_sign 46 = .ok (.getfield 184, 3) := by decide +kernel
theorem dX14_sign_49 : decode cX14_sign 49 = .ok (.iconst 1, 1) := by decide +kernel
theorem dX14_sign_50 : decode cX14_sign 50 = .ok (.iadd, 1) := by decide +kernel
theorem dX14_sign_51 : decode cX14_sign 51 = .ok (.putfield 184, 3) := by decide +kernel
theorem dX14_sign_54 : decode cX14_sign 54 = .ok (.iinc 2 (-8), 3) := by decide +kernel
theorem dX14_sign_57 : decode cX14_sign 57 = .ok (.goto (-49), 3) := by decide +kernel
theorem dX14_sign_60 : decode cX14_sign 60 = .ok (.return_, 1) := by decide +kernel
theorem dX14_clear_0 : decode cX14_clear 0 = .ok (.aload_n 0, 1) := by decide +kernel
theorem dX14_clear_1 : decode cX14_clear 1 = .ok (.getfield 7, 3) := by decide +kernel
theorem dX14_clear_4 : decode cX14_clear 4 = .ok (.aload_n 0, 1) := by decide +kernel
theorem dX14_clear_5 : decode cX14_clear 5 = .ok (.getfield 187, 3) := by decide +kernel
theorem dX14_clear_8 : decode cX14_clear 8 = .ok (.iconst 0, 1) := by decide +kernel
theorem dX14_clear_9 : decode cX14_clear 9 = .ok (.iastore, 1) := by decide +kernel
theorem dX14_clear_10 : decode cX14_clear 10 = .ok (.aload_n 0, 1) := by decide +kernel
theorem dX14_clear_11 : decode cX14_clear 11 = .ok (.getfield 13, 3) := by decide +kernel
theorem dX14_clear_14 : decode cX14_clear 14 = .ok (.aload_n 0, 1) := by decide +kernel
theorem dX14_clear_15 : decode cX14_clear 15 = .ok (.getfield 187, 3) := by decide +kernel
theorem dX14_clear_18 : decode cX14_clear 18 = .ok (.iconst 0, 1) := by decide +kernel
theorem dX14_clear_19 : decode cX14_clear 19 = .ok (.iastore, 1) := by decide +kernel
theorem dX14_clear_20 : decode cX14_clear 20 = .ok (.aload_n 0, 1) := by decide +kernel
theorem dX14_clear_21 : decode cX14_clear 21 = .ok (.getfield 16, 3) := by decide +kernel
theorem dX14_clear_24 : decode cX14_clear 24 = .ok (.aload_n 0, 1) := by decide +kernel
theorem dX14_clear_25 : decode cX14_clear 25 = .ok (.getfield 187, 3) := by decide +kernel
theorem dX14_clear_28 : decode cX14_clear 28 = .ok (.iconst 0, 1) := by decide +kernel
theorem dX14_clear_29 : decode cX14_clear 29 = .ok (.iastore, 1) := by decide +kernel
theorem dX14_clear_30 : decode cX14_clear 30 = .ok (.aload_n 0, 1) := by decide +kernel
theorem dX14_clear_31 : decode cX14_clear 31 = .ok (.getfield 19, 3) := by decide +kernel
theorem dX14_clear_34 : decode cX14_clear 34 = .ok (.aload_n 0, 1) := by decide +kernel
theorem dX14_clear_35 : decode cX14_clear 35 = .ok (.getfield 187, 3) := by decide +kernel
theorem dX14_clear_38 : decode cX14_clear 38 = .ok (.iconst 0, 1) := by decide +kernel
theorem dX14_clear_39 : decode cX14_clear 39 = .ok (.iastore, 1) := by decide +kernel
theorem dX14_clear_40 : decode cX14_clear 40 = .ok (.aload_n 0, 1) := by decide +kernel
theorem dX14_clear_41 : decode cX14_clear 41 = .ok (.getfield 22, 3) := by decide +kernel
theorem dX14_clear_44 : decode cX14_clear 44 = .ok (.aload_n 0, 1) := by decide +kernel
theorem dX14_clear_45 : decode cX14_clear 45 = .ok (.getfield 187, 3) := by decide +kernel
theorem dX14_clear_48 : decode cX14_clear 48 = .ok (.iconst 0, 1) := by decide +kernel
theorem dX14_clear_49 : decode cX14_clear 49 = .ok (.iastore, 1) := by decide +kernel
theorem dX14_clear_50 : decode cX14_clear 50 = .ok (.aload_n 0, 1) := by decide +kernel
theorem dX14_clear_51 : decode cX14_clear 51 = .ok (.getfield 25, 3) := by decide +kernel
theorem dX14_clear_54 : decode cX14_clear 54 = .ok (.aload_n 0, 1) := by decide +kernel
theorem dX14_clear_55 : decode cX14_clear 55 = .ok (.getfield 187, 3) := by decide +kernel
theorem dX14_clear_58 : decode cX14_clear 58 = .ok (.iconst 0, 1) := by decide +kernel
theorem dX14_clear_59 : decode cX14_clear 59 = .ok (.iastore, 1) := by decide +kernel
theorem dX14_clear_60 : decode cX14_clear 60 = .ok (.aload_n 0, 1) := by decide +kernel
theorem dX14_clear_61 : decode cX14_clear 61 = .ok (.getfield 28, 3) := by decide +kernel
theorem dX14_clear_64 : decode cX14_clear 64 = .ok (.aload_n 0, 1) := by decide +kernel
theorem dX14_clear_65 : decode cX14_clear 65 = .ok (.getfield 187, 3) := by decide +kernel
theorem dX14_clear_68 : decode cX14_clear 68 = .ok (.iconst 0, 1) := by decide +kernel
theorem dX14_clear_69 : decode cX14_clear 69 = .ok (.iastore, 1) := by decide +kernel
theorem dX14_clear_70 : decode cX14_clear 70 = .ok (.return_, 1) := by decide +kernel
theorem dX14_codingAt_0 : decode cX14_codingAt 0 = .ok (.iconst 0, 1) := by decide +kernel
theorem dX14_codingAt_1 : decode cX14_codingAt 1 = .ok (.istore_n 3, 1) := by decide +kernel
theorem dX14_codingAt_2 : decode cX14_codingAt 2 = .ok (.iload_n 3, 1) := by decide +kernel
theorem dX14_codingAt_3 : decode cX14_codingAt 3 = .ok (.aload_n 0, 1) := by decide +kernel
theorem dX14_codingAt_4 : decode cX14_codingAt 4 = .ok (.getfield 13, 3) := by decide +kernel
theorem dX14_codingAt_7 : decode cX14_codingAt 7 = .ok (.iload_n 1, 1) := by decide +kernel
theorem dX14_codingAt_8 : decode cX14_codingAt 8 = .ok (.iaload, 1) := by decide +kernel
theorem dX14_codingAt_9 : decode cX14_codingAt 9 = .ok (.if_icmp .ge 26, 3) := by decide +kernel
theorem dX14_codingAt_12 : decode cX14_codingAt 12 = .ok (.aload_n 0, 1) := by decide +kernel
theorem dX14_codingAt_13 : decode cX14_codingAt 13 = .ok (.getfield 37, 3) := by decide +kernel
theorem dX14_codingAt_16 : decode cX14_codingAt 16 = .ok (.bipush 12, 2) := by decide +kernel
theorem dX14_codingAt_18 : decode cX14_codingAt 18 = .ok (.iload_n 1, 1) := by decide +kernel
theorem dX14_codingAt_19 : decode cX14_codingAt 19 = .ok (.imul, 1) := by decide +kernel
theorem dX14_codingAt_20 : decode cX14_codingAt 20 = .ok (.iload_n 3, 1) := by decide +kernel
theorem dX14_codingAt_21 : decode cX14_codingAt 21 = .ok (.iadd, 1) := by decide +kernel
theorem dX14_codingAt_22 : decode cX14_codingAt 22 = .ok (.iaload, 1) := by decide +kernel
theorem dX14_codingAt_23 : decode cX14_codingAt 23 = .ok (.iload_n 2, 1) := by decide +kernel
theorem dX14_codingAt_24 : decode cX14_codingAt 24 = .ok (.if_icmp .ne 5, 3) := by decide +kernel
theorem dX14_codingAt_27 : decode cX14_codingAt 27 = .ok (.iload_n 3, 1) := by decide +kernel
theorem dX14_codingAt_28 : decode cX14_codingAt 28 = .ok (.ireturn, 1) := by decide +kernel
theorem dX14_codingAt_29 : decode cX14_codingAt 29 = .ok (.iinc 3 1, 3) := by decide +kernel
theorem dX14_codingAt_32 : decode cX14_codingAt 32 = .ok (.goto (-30), 3) := by decide +kernel
theorem dX14_codingAt_35 : decode cX14_codingAt 35 = .ok (.iconst (-1), 1) := by decide +kernel
theorem dX14_codingAt_36 : decode cX14_codingAt 36 = .ok (.ireturn, 1) := by decide +kernel
theorem dX14_layerAt_0 : decode cX14_layerAt 0 = .ok (.iconst 0, 1) := by decide +kernel
theorem dX14_layerAt_1 : decode cX14_layerAt 1 = .ok (.istore_n 3, 1) := by decide +kernel
theorem dX14_layerAt_2 : decode cX14_layerAt 2 = .ok (.iload_n 3, 1) := by decide +kernel
theorem dX14_layerAt_3 : decode cX14_layerAt 3 = .ok (.aload_n 0, 1) := by decide +kernel
theorem dX14_layerAt_4 : decode cX14_layerAt 4 = .ok (.getfield 16, 3) := by decide +kernel
theorem dX14_layerAt_7 : decode cX14_layerAt 7 = .ok (.iload_n 1, 1) := by decide +kernel
theorem dX14_layerAt_8 : decode cX14_layerAt 8 = .ok (.iaload, 1) := by decide +kernel
theorem dX14_layerAt_9 : decode cX14_layerAt 9 = .ok (.if_icmp .ge 26, 3) := by decide +kernel
theorem dX14_layerAt_12 : decode cX14_layerAt 12 = .ok (.aload_n 0, 1) := by decide +kernel
theorem dX14_layerAt_13 : decode cX14_layerAt 13 = .ok (.getfield 64, 3) := by decide +kernel
theorem dX14_layerAt_16 : decode cX14_layerAt 16 = .ok (.bipush 6, 2) := by decide +kernel
theorem dX14_layerAt_18 : decode cX14_layerAt 18 = .ok (.iload_n 1, 1) := by decide +kernel
theorem dX14_layerAt_19 : decode cX14_layerAt 19 = .ok (.imul, 1) := by decide +kernel
theorem dX14_layerAt_20 : decode cX14_layerAt 20 = .ok (.iload_n 3, 1) := by decide +kernel
theorem dX14_layerAt_21 : decode cX14_layerAt 21 = .ok (.iadd, 1) := by decide +kernel
theorem dX14_layerAt_22 : decode cX14_layerAt 22 = .ok (.iaload, 1) := by decide +kernel
theorem dX14_layerAt_23 : decode cX14_layerAt 23 = .ok (.iload_n 2, 1) := by decide +kernel
theorem dX14_layerAt_24 : decode cX14_layerAt 24 = .ok (.if_icmp .ne 5, 3) := by decide +kernel
theorem dX14_layerAt_27 : decode cX14_layerAt 27 = .ok (.iload_n 3, 1) := by decide +kernel
theorem dX14_layerAt_28 : decode cX14_layerAt 28 = .ok (.ireturn, 1) := by decide +kernel
theorem dX14_layerAt_29 : decode cX14_layerAt 29 = .ok (.iinc 3 1, 3) := by decide +kernel
theorem dX14_layerAt_32 : decode cX14_layerAt 32 = .ok (.goto (-30), 3) := by decide +kernel
theorem dX14_layerAt_35 : decode cX14_layerAt 35 = .ok (.iconst (-1), 1) := by decide +kernel
theorem dX14_layerAt_36 : decode cX14_layerAt 36 = .ok (.ireturn, 1) := by decide +kernel
theorem dX14_serviceAt_0 : decode cX14_serviceAt 0 = .ok (.iconst 0, 1) := by decide +kernel
theorem dX14_serviceAt_1 : decode cX14_serviceAt 1 = .ok (.istore 4, 2) := by decide +kernel
theorem dX14_serviceAt_3 : decode cX14_serviceAt 3 = .ok (.iload 4, 2) := by decide +kernel
theorem dX14_serviceAt_5 : decode cX14_serviceAt 5 = .ok (.aload_n 0, 1) := by decide +kernel
theorem dX14_serviceAt_6 : decode cX14_serviceAt 6 = .ok (.getfield 19, 3) := by decide +kernel
theorem dX14_serviceAt_9 : decode cX14_serviceAt 9 = .ok (.iload_n 1, 1) := by decide +kernel
theorem dX14_serviceAt_10 : decode cX14_serviceAt 10 = .ok (.iaload, 1) := by decide +kernel
theorem dX14_serviceAt_11 : decode cX14_serviceAt 11 = .ok (.if_icmp .ge 48, 3) := by decide +kernel
theorem dX14_serviceAt_14 : decode cX14_serviceAt 14 = .ok (.aload_n 0, 1) := by decide +kernel
theorem dX14_serviceAt_15 : decode cX14_serviceAt 15 = .ok (.getfield 70, 3) := by decide +kernel
theorem dX14_serviceAt_18 : decode cX14_serviceAt 18 = .ok (.bipush 16, 2) := by decide +kernel
theorem dX14_serviceAt_20 : decode cX14_serviceAt 20 = .ok (.iload_n 1, 1) := by decide +kernel
theorem dX14_serviceAt_21 : decode cX14_serviceAt 21 = .ok (.imul, 1) := by decide +kernel
theorem dX14_serviceAt_22 : decode cX14_serviceAt 22 = .ok (.iload 4, 2) := by decide +kernel
theorem dX14_serviceAt_24 : decode cX14_serviceAt 24 = .ok (.iadd, 1) := by decide +kernel
theorem dX14_serviceAt_25 : decode cX14_serviceAt 25 = .ok (.iaload, 1) := by decide +kernel
theorem dX14_serviceAt_26 : decode cX14_serviceAt 26 = .ok (.iload_n 2, 1) := by decide +kernel
theorem dX14_serviceAt_27 : decode cX14_serviceAt 27 = .ok (.if_icmp .ne 26, 3) := by decide +kernel
theorem dX14_serviceAt_30 : decode cX14_serviceAt 30 = .ok (.iload_n 3, 1) := by decide +kernel
theorem dX14_serviceAt_31 : decode cX14_serviceAt 31 = .ok (.ifCond .lt 19, 3) := by decide +kernel
theorem dX14_serviceAt_34 : decode cX14_serviceAt 34 = .ok (.aload_n 0, 1) := by decide +kernel
theorem dX14_serviceAt_35 : decode cX14_serviceAt 35 = .ok (.getfield 76, 3) := by decide +kernel
theorem dX14_serviceAt_38 : decode cX14_serviceAt 38 = .ok (.bipush 16, 2) := by decide +kernel
theorem dX14_serviceAt_40 : decode cX14_serviceAt 40 = .ok (.iload_n 1, 1) := by decide +kernel
theorem dX14_serviceAt_41 : decode cX14_serviceAt 41 = .ok (.imul, 1) := by decide +kernel
theorem dX14_serviceAt_42 : decode cX14_serviceAt 42 = .ok (.iload 4, 2) := by decide +kernel
theorem dX14_serviceAt_44 : decode cX14_serviceAt 44 = .ok (.iadd, 1) := by decide +kernel
theorem dX14_serviceAt_45 : decode cX14_serviceAt 45 = .ok (.iaload, 1) := by decide +kernel
theorem dX14_serviceAt_46 : decode cX14_serviceAt 46 = .ok (.iload_n 3, 1) := by decide +kernel
theorem dX14_serviceAt_47 : decode cX14_serviceAt 47 = .ok (.if_icmp .ne 6, 3) := by decide +kernel
theorem dX14_serviceAt_50 : decode cX14_serviceAt 50 = .ok (.iload 4, 2) := by decide +kernel
theorem dX14_serviceAt_52 : decode cX14_serviceAt 52 = .ok (.ireturn, 1) := by decide +kernel
theorem dX14_serviceAt_53 : decode cX14_serviceAt 53 = .ok (.iinc 4 1, 3) := by decide +kernel
theorem dX14_serviceAt_56 : decode cX14_serviceAt 56 = .ok (.goto (-53), 3) := by decide +kernel
theorem dX14_serviceAt_59 : decode cX14_serviceAt 59 = .ok (.iconst (-1), 1) := by decide +kernel
theorem dX14_serviceAt_60 : decode cX14_serviceAt 60 = .ok (.ireturn, 1) := by decide +kernel
theorem dX14_paramAt_0 : decode cX14_paramAt 0 = .ok (.iconst 0, 1) := by decide +kernel
theorem dX14_paramAt_1 : decode cX14_paramAt 1 = .ok (.istore 4, 2) := by decide +kernel
theorem dX14_paramAt_3 : decode cX14_paramAt 3 = .ok (.iload 4, 2) := by decide +kernel
theorem dX14_paramAt_5 : decode cX14_paramAt 5 = .ok (.aload_n 0, 1) := by decide +kernel
theorem dX14_paramAt_6 : decode cX14_paramAt 6 = .ok (.getfield 79, 3) := by decide +kernel
theorem dX14_paramAt_9 : decode cX14_paramAt 9 = .ok (.bipush 16, 2) := by decide +kernel
theorem dX14_paramAt_11 : decode cX14_paramAt 11 = .ok (.iload_n 1, 1) := by decide +kernel
theorem dX14_paramAt_12 : decode cX14_paramAt 12 = .ok (.imul, 1) := by decide +kernel
theorem dX14_paramAt_13 : decode cX14_paramAt 13 = .ok (.iload_n 2, 1) := by decide +kernel
theorem dX14_paramAt_14 : decode cX14_paramAt 14 = .ok (.iadd, 1) := by decide +kernel
theorem dX14_paramAt_15 : decode cX14_paramAt 15 = .ok (.iaload, 1) := by decide +kernel
theorem dX14_paramAt_16 : decode cX14_paramAt 16 = .ok (.if_icmp .ge 34, 3) := by decide +kernel
theorem dX14_paramAt_19 : decode cX14_paramAt 19 = .ok (.aload_n 0, 1) := by decide +kernel
theorem dX14_paramAt_20 : decode cX14_paramAt 20 = .ok (.getfield 82, 3) := by decide +kernel
theorem dX14_paramAt_23 : decode cX14_paramAt 23 = .ok (.sipush 128, 3) := by decide +kernel
theorem dX14_paramAt_26 : decode cX14_paramAt 26 = .ok (.iload_n 1, 1) := by decide +kernel
theorem dX14_paramAt_27 : decode cX14_paramAt 27 = .ok (.imul, 1) := by decide +kernel
theorem dX14_paramAt_28 : decode cX14_paramAt 28 = .ok (.bipush 8, 2) := by decide +kernel
theorem dX14_paramAt_30 : decode cX14_paramAt 30 = .ok (.iload_n 2, 1) := by decide +kernel
theorem dX14_paramAt_31 : decode cX14_paramAt 31 = .ok (.imul, 1) := by decide +kernel
theorem dX14_paramAt_32 : decode cX14_paramAt 32 = .ok (.iadd, 1) := by decide +kernel
theorem dX14_paramAt_33 : decode cX14_paramAt 33 = .ok (.iload 4, 2) := by decide +kernel
theorem dX14_paramAt_35 : decode cX14_paramAt 35 = .ok (.iadd, 1) := by decide +kernel
theorem dX14_paramAt_36 : decode cX14_paramAt 36 = .ok (.iaload, 1) := by decide +kernel
theorem dX14_paramAt_37 : decode cX14_paramAt 37 = .ok (.iload_n 3, 1) := by decide +kernel
theorem dX14_paramAt_38 : decode cX14_paramAt 38 = .ok (.if_icmp .ne 6, 3) := by decide +kernel
theorem dX14_paramAt_41 : decode cX14_paramAt 41 = .ok (.iload 4, 2) := by decide +kernel
theorem dX14_paramAt_43 : decode cX14_paramAt 43 = .ok (.ireturn, 1) := by decide +kernel
theorem dX14_paramAt_44 : decode cX14_paramAt 44 = .ok (.iinc 4 1, 3) := by decide +kernel
theorem dX14_paramAt_47 : decode cX14_paramAt 47 = .ok (.goto (-44), 3) := by decide +kernel
theorem dX14_paramAt_50 : decode cX14_paramAt 50 = .ok (.iconst (-1), 1) := by decide +kernel
theorem dX14_paramAt_51 : decode cX14_paramAt 51 = .ok (.ireturn, 1) := by decide +kernel
theorem dX14_isLetter_0 : decode cX14_isLetter 0 = .ok (.iload_n 0, 1) := by decide +kernel
theorem dX14_isLetter_1 : decode cX14_isLetter 1 = .ok (.bipush 97, 2) := by decide +kernel
theorem dX14_isLetter_3 : decode cX14_isLetter 3 = .ok (.if_icmp .lt 13, 3) := by decide +kernel
theorem dX14_isLetter_6 : decode cX14_isLetter 6 = .ok (.iload_n 0, 1) := by decide +kernel
theorem dX14_isLetter_7 : decode cX14_isLetter 7 = .ok (.bipush 122, 2) := by decide +kernel
theorem dX14_isLetter_9 : decode cX14_isLetter 9 = .ok (.if_icmp .gt 7, 3) := by decide +kernel
theorem dX14_isLetter_12 : decode cX14_isLetter 12 = .ok (.iconst 1, 1) := by decide +kernel
theorem dX14_isLetter_13 : decode cX14_isLetter 13 = .ok (.goto 4, 3) := by decide +kernel
theorem dX14_isLetter_16 : decode cX14_isLetter 16 = .ok (.iconst 0, 1) := by decide +kernel
theorem dX14_isLetter_17 : decode cX14_isLetter 17 = .ok (.ireturn, 1) := by decide +kernel
theorem dX14_isDigit_0 : decode cX14_isDigit 0 = .ok (.iload_n 0, 1) := by decide +kernel
theorem dX14_isDigit_1 : decode cX14_isDigit 1 = .ok (.bipush 48, 2) := by decide +kernel
theorem dX14_isDigit_3 : decode cX14_isDigit 3 = .ok (.if_icmp .lt 13, 3) := by decide +kernel
theorem dX14_isDigit_6 : decode cX14_isDigit 6 = .ok (.iload_n 0, 1) := by decide +kernel
theorem dX14_isDigit_7 : decode cX14_isDigit 7 = .ok (.bipush 57, 2) := by decide +kernel
theorem dX14_isDigit_9 : decode cX14_isDigit 9 = .ok (.if_icmp .gt 7, 3) := by decide +kernel
theorem dX14_isDigit_12 : decode cX14_isDigit 12 = .ok (.iconst 1, 1) := by decide +kernel
theorem dX14_isDigit_13 : decode cX14_isDigit 13 = .ok (.goto 4, 3) := by decide +kernel
theorem dX14_isDigit_16 : decode cX14_isDigit 16 = .ok (.iconst 0, 1) := by decide +kernel
theorem dX14_isDigit_17 : decode cX14_isDigit 17 = .ok (.ireturn, 1) := by decide +kernel
theorem dX14_here_0 : decode cX14_here 0 = .ok (.aload_n 0, 1) := by decide +kernel
theorem dX14_here_1 : decode cX14_here 1 = .ok (.getfield 190, 3) := by decide +kernel
theorem dX14_here_4 : decode cX14_here 4 = .ok (.aload_n 0, 1) := by decide +kernel
theorem dX14_here_5 : decode cX14_here 5 = .ok (.getfield 193, 3) := by decide +kernel
theorem dX14_here_8 : decode cX14_here 8 = .ok (.if_icmp .ge 15, 3) := by decide +kernel
theorem dX14_here_11 : decode cX14_here 11 = .ok (.aload_n 0, 1) := by decide +kernel
theorem dX14_here_12 : decode cX14_here 12 = .ok (.getfield 137, 3) := by decide +kernel
theorem dX14_here_15 : decode cX14_here 15 = .ok (.aload_n 0, 1) := by decide +kernel
theorem dX14_here_16 : decode cX14_here 16 = .ok (.getfield 190, 3) := by decide +kernel
theorem dX14_here_19 : decode cX14_here 19 = .ok (.iaload, 1) := by decide +kernel
theorem dX14_here_20 : decode cX14_here 20 = .ok (.goto 4, 3) := by decide +kernel
theorem dX14_here_23 : decode cX14_here 23 = .ok (.iconst (-1), 1) := by decide +kernel
theorem dX14_here_24 : decode cX14_here 24 = .ok (.ireturn, 1) := by decide +kernel
theorem dX14_packed_0 : decode cX14_packed 0 = .ok (.lconst 0, 1) := by decide +kernel
theorem dX14_packed_1 : decode cX14_packed 1 = .ok (.lstore_n 3, 1) := by decide +kernel
theorem dX14_packed_2 : decode cX14_packed 2 = .ok (.iload_n 2, 1) := by decide +kernel
theorem dX14_packed_3 : decode cX14_packed 3 = .ok (.iconst 1, 1) := by decide +kernel
theorem dX14_packed_4 : decode cX14_packed 4 = .ok (.isub, 1) := by decide +kernel
theorem dX14_packed_5 : decode cX14_packed 5 = .ok (.istore 5, 2) := by decide +kernel
theorem dX14_packed_7 : decode cX14_packed 7 = .ok (.iload 5, 2) := by decide +kernel
theorem dX14_packed_9 : decode cX14_packed 9 = .ok (.iload_n 1, 1) := by decide +kernel
theorem dX14_packed_10 : decode cX14_packed 10 = .ok (.if_icmp .lt 23, 3) := by decide +kernel
theorem dX14_packed_13 : decode cX14_packed 13 = .ok (.lload_n 3, 1) := by decide +kernel
theorem dX14_packed_14 : decode cX14_packed 14 = .ok (.bipush 8, 2) := by decide +kernel
theorem dX14_packed_16 : decode cX14_packed 16 = .ok (.lshl, 1) := by decide +kernel
theorem dX14_packed_17 : decode cX14_packed 17 = .ok (.aload_n 0, 1) := by decide +kernel
theorem dX14_packed_18 : decode cX14_packed 18 = .ok (.getfield 137, 3) := by decide +kernel
theorem dX14_packed_21 : decode cX14_packed 21 = .ok (.iload 5, 2) := by decide +kernel
theorem dX14_packed_23 : decode cX14_packed 23 = .ok (.iaload, 1) := by decide +kernel
theorem dX14_packed_24 : decode cX14_packed 24 = .ok (.i2l, 1) := by decide +kernel
theorem dX14_packed_25 : decode cX14_packed 25 = .ok (.lor, 1) := by decide +kernel
theorem dX14_packed_26 : decode cX14_packed 26 = .ok (.lstore_n 3, 1) := by decide +kernel
theorem dX14_packed_27 : decode cX14_packed 27 = .ok (.iinc 5 (-1), 3) := by decide +kernel
theorem dX14_packed_30 : decode cX14_packed 30 = .ok (.goto (-23), 3) := by decide +kernel
theorem dX14_packed_33 : decode cX14_packed 33 = .ok (.lload_n 3, 1) := by decide +kernel
theorem dX14_packed_34 : decode cX14_packed 34 = .ok (.lreturn, 1) := by decide +kernel
theorem dX14_wordOf_0 : decode cX14_wordOf 0 = .ok (.iload_n 2, 1) := by decide +kernel
theorem dX14_wordOf_1 : decode cX14_wordOf 1 = .ok (.iload_n 1, 1) := by decide +kernel
theorem dX14_wordOf_2 : decode cX14_wordOf 2 = .ok (.isub, 1) := by decide +kernel
theorem dX14_wordOf_3 : decode cX14_wordOf 3 = .ok (.bipush 8, 2) := by decide +kernel
theorem dX14_wordOf_5 : decode cX14_wordOf 5 = .ok (.if_icmp .le 5, 3) := by decide +kernel
theorem dX14_wordOf_8 : decode cX14_wordOf 8 = .ok (.iconst 0, 1) := by decide +kernel
theorem dX14_wordOf_9 : decode cX14_wordOf 9 = .ok (.ireturn, 1) := by decide +kernel
theorem dX14_wordOf_10 : decode cX14_wordOf 10 = .ok (.aload_n 0, 1) := by decide +kernel
theorem dX14_wordOf_11 : decode cX14_wordOf 11 = .ok (.iload_n 1, 1) := by decide +kernel
theorem dX14_wordOf_12 : decode cX14_wordOf 12 = .ok (.iload_n 2, 1) := by decide +kernel
theorem dX14_wordOf_13 : decode cX14_wordOf 13 = .ok (.invokevirtual 196, 3) := by decide +kernel
theorem dX14_wordOf_16 : decode cX14_wordOf 16 = .ok (.lstore_n 3, 1) := by decide +kernel
theorem dX14_wordOf_17 : decode cX14_wordOf 17 = .ok (.lload_n 3, 1) := by decide +kernel
theorem dX14_wordOf_18 : decode cX14_wordOf 18 = .ok (.ldc2_w 200, 3) := by decide +kernel
theorem dX14_wordOf_21 : decode cX14_wordOf 21 = .ok (.lcmp, 1) := by decide +kernel
theorem dX14_wordOf_22 : decode cX14_wordOf 22 = .ok (.ifCond .ne 7, 3) := by decide +kernel
theorem dX14_wordOf_25 : decode cX14_wordOf 25 = .ok (.iconst 1, 1) := by decide +kernel
theorem dX14_wordOf_26 : decode cX14_wordOf 26 = .ok (.goto 146, 3) := by decide +kernel
theorem dX14_wordOf_29 : decode cX14_wordOf 29 = .ok (.lload_n 3, 1) := by decide +kernel
theorem dX14_wordOf_30 : decode cX14_wordOf 30 = .ok (.ldc2_w 202, 3) := by decide +kernel
theorem dX14_wordOf_33 : decode cX14_wordOf 33 = .ok (.lcmp, 1) := by decide +kernel
theorem dX14_wordOf_34 : decode cX14_wordOf 34 = .ok (.ifCond .ne 7, 3) := by decide +kernel
theorem dX14_wordOf_37 : decode cX14_wordOf 37 = .ok (.iconst 2, 1) := by decide +kernel
theorem dX14_wordOf_38 : decode cX14_wordOf 38 = .ok (.goto 134, 3) := by decide +kernel
theorem dX14_wordOf_41 : decode cX14_wordOf 41 = .ok (.lload_n 3, 1) := by decide +kernel
theorem dX14_wordOf_42 : decode cX14_wordOf 42 = .ok (.ldc2_w 204, 3) := by decide +kernel
theorem dX14_wordOf_45 : decode cX14_wordOf 45 = .ok (.lcmp, 1) := by decide +kernel
theorem dX14_wordOf_46 : decode cX14_wordOf 46 = .ok (.ifCond .ne 7, 3) := by decide +kernel
theorem dX14_wordOf_49 : decode cX14_wordOf 49 = .ok (.iconst 3, 1) := by decide +kernel
theorem dX14_wordOf_50 : decode cX14_wordOf 50 = .ok (.goto 122, 3) := by decide +kernel
theorem dX14_wordOf_53 : decode cX14_wordOf 53 = .ok (.lload_n 3, 1) := by decide +kernel
theorem dX14_wordOf_54 : decode cX14_wordOf 54 = .ok (.ldc2_w 206, 3) := by decide +kernel
theorem dX14_wordOf_57 : decode cX14_wordOf 57 = .ok (.lcmp, 1) := by decide +kernel
theorem dX14_wordOf_58 : decode cX14_wordOf 58 = .ok (.ifCond .ne 7, 3) := by decide +kernel
theorem dX14_wordOf_61 : decode cX14_wordOf 61 = .ok (.iconst 4, 1) := by decide +kernel
theorem dX14_wordOf_62 : decode cX14_wordOf 62 = .ok (.goto 110, 3) := by decide +kernel
theorem dX14_wordOf_65 : decode cX14_wordOf 65 = .ok (.lload_n 3, 1) := by decide +kernel
theorem dX14_wordOf_66 : decode cX14_wordOf 66 = .ok (.ldc2_w 208, 3) := by decide +kernel
theorem dX14_wordOf_69 : decode cX14_wordOf 69 = .ok (.lcmp, 1) := by decide +kernel
theorem dX14_wordOf_70 : decode cX14_wordOf 70 = .ok (.ifCond .ne 7, 3) := by decide +kernel
theorem dX14_wordOf_73 : decode cX14_wordOf 73 = .ok (.iconst 5, 1) := by decide +kernel
theorem dX14_wordOf_74 : decode cX14_wordOf 74 = .ok (.goto 98, 3) := by decide +kernel
theorem dX14_wordOf_77 : decode cX14_wordOf 77 = .ok (.lload_n 3, 1) := by decide +kernel
theorem dX14_wordOf_78 : decode cX14_wordOf 78 = .ok (.ldc2_w 210, 3) := by decide +kernel
theorem dX14_wordOf_81 : decode cX14_wordOf 81 = .ok (.lcmp, 1) := by decide +kernel
theorem dX14_wordOf_82 : decode cX14_wordOf 82 = .ok (.ifCond .ne 8, 3) := by decide +kernel
theorem dX14_wordOf_85 : decode cX14_wordOf 85 = .ok (.bipush 6, 2) := by decide +kernel
theorem dX14_wordOf_87 : decode cX14_wordOf 87 = .ok (.goto 85, 3) := by decide +kernel
theorem dX14_wordOf_90 : decode cX14_wordOf 90 = .ok (.lload_n 3, 1) := by decide +kernel
theorem dX14_wordOf_91 : decode cX14_wordOf 91 = .ok (.ldc2_w 212, 3) := by decide +kernel
theorem dX14_wordOf_94 : decode cX14_wordOf 94 = .ok (.lcmp, 1) := by decide +kernel
theorem dX14_wordOf_95 : decode cX14_wordOf 95 = .ok (.ifCond .ne 8, 3) := by decide +kernel
theorem dX14_wordOf_98 : decode cX14_wordOf 98 = .ok (.bipush 7, 2) := by decide +kernel
theorem dX14_wordOf_100 : decode cX14_wordOf 100 = .ok (.goto 72, 3) := by decide +kernel
theorem dX14_wordOf_103 : decode cX14_wordOf 103 = .ok (.lload_n 3, 1) := by decide +kernel
theorem dX14_wordOf_104 : decode cX14_wordOf 104 = .ok (.ldc2_w 214, 3) := by decide +kernel
theorem dX14_wordOf_107 : decode cX14_wordOf 107 = .ok (.lcmp, 1) := by decide +kernel
theorem dX14_wordOf_108 : decode cX14_wordOf 108 = .ok (.ifCond .ne 8, 3) := by decide +kernel
theorem dX14_wordOf_111 : decode cX14_wordOf 111 = .ok (.bipush 8, 2) := by decide +kernel
theorem dX14_wordOf_113 : decode cX14_wordOf 113 = .ok (.goto 59, 3) := by decide +kernel
theorem dX14_wordOf_116 : decode cX14_wordOf 116 = .ok (.lload_n 3, 1) := by decide +kernel
theorem dX14_wordOf_117 : decode cX14_wordOf 117 = .ok (.ldc2_w 216, 3) := by decide +kernel
theorem dX14_wordOf_120 : decode cX14_wordOf 120 = .ok (.lcmp, 1) := by decide +kernel
theorem dX14_wordOf_121 : decode cX14_wordOf 121 = .ok (.ifCond .ne 8, 3) := by decide +kernel
theorem dX14_wordOf_124 : decode cX14_wordOf 124 = .ok (.bipush 9, 2) := by decide +kernel
theorem dX14_wordOf_126 : decode cX14_wordOf 126 = .ok (.goto 46, 3) := by decide +kernel
theorem dX14_wordOf_129 : decode cX14_wordOf 129 = .ok (.lload_n 3, 1) := by decide +kernel
theorem dX14_wordOf_130 : decode cX14_wordOf 130 = .ok (.ldc2_w 218, 3) := by decide +kernel
theorem dX14_wordOf_133 : decode cX14_wordOf 133 = .ok (.lcmp, 1) := by decide +kernel
theorem dX14_wordOf_134 : decode cX14_wordOf 134 = .ok (.ifCond .ne 8, 3) := by decide +kernel
theorem dX14_wordOf_137 : decode cX14_wordOf 137 = .ok (.bipush 10, 2) := by decide +kernel
theorem dX14_wordOf_139 : decode cX14_wordOf 139 = .ok (.goto 33, 3) := by decide +kernel
theorem dX14_wordOf_142 : decode cX14_wordOf 142 = .ok (.lload_n 3, 1) := by decide +kernel
theorem dX14_wordOf_143 : decode cX14_wordOf 143 = .ok (.ldc2_w 220, 3) := by decide +kernel
theorem dX14_wordOf_146 : decode cX14_wordOf 146 = .ok (.lcmp, 1) := by decide +kernel
theorem dX14_wordOf_147 : decode cX14_wordOf 147 = .ok (.ifCond .ne 8, 3) := by decide +kernel
theorem dX14_wordOf_150 : decode cX14_wordOf 150 = .ok (.bipush 11, 2) := by decide +kernel
theorem dX14_wordOf_152 : decode cX14_wordOf 152 = .ok (.goto 20, 3) := by decide +kernel
theorem dX14_wordOf_155 : decode cX14_wordOf 155 = .ok (.lload_n 3, 1) := by decide +kernel
theorem dX14_wordOf_156 : decode cX14_wordOf 156 = .ok (.ldc2_w 222, 3) := by decide +kernel
theorem dX14_wordOf_159 : decode cX14_wordOf 159 = .ok (.lcmp, 1) := by decide +kernel
theorem dX14_wordOf_160 : decode cX14_wordOf 160 = .ok (.ifCond .ne 8, 3) := by decide +kernel
theorem dX14_wordOf_163 : decode cX14_wordOf 163 = .ok (.bipush 12, 2) := by decide +kernel
theorem dX14_wordOf_165 : decode cX14_wordOf 165 = .ok (.goto 7, 3) := by decide +kernel
theorem dX14_wordOf_168 : decode cX14_wordOf 168 = .ok (.lload_n 3, 1) := by decide +kernel
theorem dX14_wordOf_169 : decode cX14_wordOf 169 = .ok (.invokestatic 224, 3) := by decide +kernel
theorem dX14_wordOf_172 : decode cX14_wordOf 172 = .ok (.ireturn, 1) := by decide +kernel
theorem dX14_otherWord_0 : decode cX14_otherWord 0 = .ok (.lload_n 0, 1) := by decide +kernel
theorem dX14_otherWord_1 : decode cX14_otherWord 1 = .ok (.ldc2_w 228, 3) := by decide +kernel
theorem dX14_otherWord_4 : decode cX14_otherWord 4 = .ok (.lcmp, 1) := by decide +kernel
theorem dX14_otherWord_5 : decode cX14_otherWord 5 = .ok (.ifCond .ne 8, 3) := by decide +kernel
theorem dX14_otherWord_8 : decode cX14_otherWord 8 = .ok (.bipush 13, 2) := by decide +kernel
theorem dX14_otherWord_10 : decode cX14_otherWord 10 = .ok (.goto 147, 3) := by decide +kernel
theorem dX14_otherWord_13 : decode cX14_otherWord 13 = .ok (.lload_n 0, 1) := by decide +kernel
theorem dX14_otherWord_14 : decode cX14_otherWord 14 = .ok (.ldc2_w 230, 3) := by decide +kernel
theorem dX14_otherWord_17 : decode cX14_otherWord 17 = .ok (.lcmp, 1) := by decide +kernel
theorem dX14_otherWord_18 : decode cX14_otherWord 18 = .ok (.ifCond .ne 8, 3) := by decide +kernel
theorem dX14_otherWord_21 : decode cX14_otherWord 21 = .ok (.bipush 14, 2) := by decide +kernel
theorem dX14_otherWord_23 : decode cX14_otherWord 23 = .ok (.goto 134, 3) := by decide +kernel
theorem dX14_otherWord_26 : decode cX14_otherWord 26 = .ok (.lload_n 0, 1) := by decide +kernel
theorem dX14_otherWord_27 : decode cX14_otherWord 27 = .ok (.ldc2_w 232, 3) := by decide +kernel
theorem dX14_otherWord_30 : decode cX14_otherWord 30 = .ok (.lcmp, 1) := by decide +kernel
theorem dX14_otherWord_31 : decode cX14_otherWord 31 = .ok (.ifCond .ne 8, 3) := by decide +kernel
theorem dX14_otherWord_34 : decode cX14_otherWord 34 = .ok (.bipush 15, 2) := by decide +kernel
theorem dX14_otherWord_36 : decode cX14_otherWord 36 = .ok (.goto 121, 3) := by decide +kernel
theorem dX14_otherWord_39 : decode cX14_otherWord 39 = .ok (.lload_n 0, 1) := by decide +kernel
theorem dX14_otherWord_40 : decode cX14_otherWord 40 = .ok (.ldc2_w 234, 3) := by decide +kernel
theorem dX14_otherWord_43 : decode cX14_otherWord 43 = .ok (.lcmp, 1) := by decide +kernel
theorem dX14_otherWord_44 : decode cX14_otherWord 44 = .ok (.ifCond .ne 8, 3) := by decide +kernel
theorem dX14_otherWord_47 : decode cX14_otherWord 47 = .ok (.bipush 16, 2) := by decide +kernel
theorem dX14_otherWord_49 : decode cX14_otherWord 49 = .ok (.goto 108, 3) := by decide +kernel
theorem dX14_otherWord_52 : decode cX14_otherWord 52 = .ok (.lload_n 0, 1) := by decide +kernel
theorem dX14_otherWord_53 : decode cX14_otherWord 53 = .ok (.ldc2_w 236, 3) := by decide +kernel
theorem dX14_otherWord_56 : decode cX14_otherWord 56 = .ok (.lcmp, 1) := by decide +kernel
theorem dX14_otherWord_57 : decode cX14_otherWord 57 = .ok (.ifCond .ne 8, 3) := by decide +kernel
theorem dX14_otherWord_60 : decode cX14_otherWord 60 = .ok (.bipush 17, 2) := by decide +kernel
theorem dX14_otherWord_62 : decode cX14_otherWord 62 = .ok (.goto 95, 3) := by decide +kernel
theorem dX14_otherWord_65 : decode cX14_otherWord 65 = .ok (.lload_n 0, 1) := by decide +kernel
theorem dX14_otherWord_66 : decode cX14_otherWord 66 = .ok (.ldc2_w 238, 3) := by decide +kernel
theorem dX14_otherWord_69 : decode cX14_otherWord 69 = .ok (.lcmp, 1) := by decide +kernel
theorem dX14_otherWord_70 : decode cX14_otherWord 70 = .ok (.ifCond .ne 8, 3) := by decide +kernel
theorem dX14_otherWord_73 : decode cX14_otherWord 73 = .ok (.bipush 18, 2) := by decide +kernel
theorem dX14_otherWord_75 : decode cX14_otherWord 75 = .ok (.goto 82, 3) := by decide +kernel
theorem dX14_otherWord_78 : decode cX14_otherWord 78 = .ok (.lload_n 0, 1) := by decide +kernel
theorem dX14_otherWord_79 : decode cX14_otherWord 79 = .ok (.ldc2_w 240, 3) := by decide +kernel
theorem dX14_otherWord_82 : decode cX14_otherWord 82 = .ok (.lcmp, 1) := by decide +kernel
theorem dX14_otherWord_83 : decode cX14_otherWord 83 = .ok (.ifCond .ne 8, 3) := by decide +kernel
theorem dX14_otherWord_86 : decode cX14_otherWord 86 = .ok (.bipush 19, 2) := by decide +kernel
theorem dX14_otherWord_88 : decode cX14_otherWord 88 = .ok (.goto 69, 3) := by decide +kernel
theorem dX14_otherWord_91 : decode cX14_otherWord 91 = .ok (.lload_n 0, 1) := by decide +kernel
theorem dX14_otherWord_92 : decode cX14_otherWord 92 = .ok (.ldc2_w 242, 3) := by decide +kernel
theorem dX14_otherWord_95 : decode cX14_otherWord 95 = .ok (.lcmp, 1) := by decide +kernel
theorem dX14_otherWord_96 : decode cX14_otherWord 96 = .ok (.ifCond .ne 8, 3) := by decide +kernel
theorem dX14_otherWord_99 : decode cX14_otherWord 99 = .ok (.bipush 20, 2) := by decide +kernel
theorem dX14_otherWord_101 : decode cX14_otherWord 101 = .ok (.goto 56, 3) := by decide +kernel
theorem dX14_otherWord_104 : decode cX14_otherWord 104 = .ok (.lload_n 0, 1) := by decide +kernel
theorem dX14_otherWord_105 : decode cX14_otherWord 105 = .ok (.ldc2_w 244, 3) := by decide +kernel
theorem dX14_otherWord_108 : decode cX14_otherWord 108 = .ok (.lcmp, 1) := by decide +kernel
theorem dX14_otherWord_109 : decode cX14_otherWord 109 = .ok (.ifCond .ne 8, 3) := by decide +kernel
theorem dX14_otherWord_112 : decode cX14_otherWord 112 = .ok (.bipush 21, 2) := by decide +kernel
theorem dX14_otherWord_114 : decode cX14_otherWord 114 = .ok (.goto 43, 3) := by decide +kernel
theorem dX14_otherWord_117 : decode cX14_otherWord 117 = .ok (.lload_n 0, 1) := by decide +kernel
theorem dX14_otherWord_118 : decode cX14_otherWord 118 = .ok (.ldc2_w 246, 3) := by decide +kernel
theorem dX14_otherWord_121 : decode cX14_otherWord 121 = .ok (.lcmp, 1) := by decide +kernel
theorem dX14_otherWord_122 : decode cX14_otherWord 122 = .ok (.ifCond .ne 8, 3) := by decide +kernel
theorem dX14_otherWord_125 : decode cX14_otherWord 125 = .ok (.bipush 22, 2) := by decide +kernel
theorem dX14_otherWord_127 : decode cX14_otherWord 127 = .ok (.goto 30, 3) := by decide +kernel
theorem dX14_otherWord_130 : decode cX14_otherWord 130 = .ok (.lload_n 0, 1) := by decide +kernel
theorem dX14_otherWord_131 : decode cX14_otherWord 131 = .ok (.ldc2_w 248, 3) := by decide +kernel
theorem dX14_otherWord_134 : decode cX14_otherWord 134 = .ok (.lcmp, 1) := by decide +kernel
theorem dX14_otherWord_135 : decode cX14_otherWord 135 = .ok (.ifCond .ne 8, 3) := by decide +kernel
theorem dX14_otherWord_138 : decode cX14_otherWord 138 = .ok (.bipush 23, 2) := by decide +kernel
theorem dX14_otherWord_140 : decode cX14_otherWord 140 = .ok (.goto 17, 3) := by decide +kernel
theorem dX14_otherWord_143 : decode cX14_otherWord 143 = .ok (.lload_n 0, 1) := by decide +kernel
theorem dX14_otherWord_144 : decode cX14_otherWord 144 = .ok (.ldc2_w 250, 3) := by decide +kernel
theorem dX14_otherWord_147 : decode cX14_otherWord 147 = .ok (.lcmp, 1) := by decide +kernel
theorem dX14_otherWord_148 : decode cX14_otherWord 148 = .ok (.ifCond .ne 8, 3) := by decide +kernel
theorem dX14_otherWord_151 : decode cX14_otherWord 151 = .ok (.bipush 24, 2) := by decide +kernel
theorem dX14_otherWord_153 : decode cX14_otherWord 153 = .ok (.goto 4, 3) := by decide +kernel
theorem dX14_otherWord_156 : decode cX14_otherWord 156 = .ok (.iconst 0, 1) := by decide +kernel
theorem dX14_otherWord_157 : decode cX14_otherWord 157 = .ok (.ireturn, 1) := by decide +kernel
theorem dX14_nameOf_0 : decode cX14_nameOf 0 = .ok (.aload_n 0, 1) := by decide +kernel
theorem dX14_nameOf_1 : decode cX14_nameOf 1 = .ok (.getfield 187, 3) := by decide +kernel
theorem dX14_nameOf_4 : decode cX14_nameOf 4 = .ok (.istore_n 3, 1) := by decide +kernel
theorem dX14_nameOf_5 : decode cX14_nameOf 5 = .ok (.iconst 1, 1) := by decide +kernel
theorem dX14_nameOf_6 : decode cX14_nameOf 6 = .ok (.istore 4, 2) := by decide +kernel
theorem dX14_nameOf_8 : decode cX14_nameOf 8 = .ok (.iload 4, 2) := by decide +kernel
theorem dX14_nameOf_10 : decode cX14_nameOf 10 = .ok (.aload_n 0, 1) := by decide +kernel
theorem dX14_nameOf_11 : decode cX14_nameOf 11 = .ok (.getfield 7, 3) := by decide +kernel
theorem dX14_nameOf_14 : decode cX14_nameOf 14 = .ok (.iload_n 3, 1) := by decide +kernel
theorem dX14_nameOf_15 : decode cX14_nameOf 15 = .ok (.iaload, 1) := by decide +kernel
theorem dX14_nameOf_16 : decode cX14_nameOf 16 = .ok (.if_icmp .gt 113, 3) := by decide +kernel
theorem dX14_nameOf_19 : decode cX14_nameOf 19 = .ok (.aload_n 0, 1) := by decide +kernel
theorem dX14_nameOf_20 : decode cX14_nameOf 20 = .ok (.getfield 31, 3) := by decide +kernel
theorem dX14_nameOf_23 : decode cX14_nameOf 23 = .ok (.sipush 1001, 3) := by decide +kernel
theorem dX14_nameOf_26 : decode cX14_nameOf 26 = .ok (.iload_n 3, 1) := by decide +kernel
theorem dX14_nameOf_27 : decode cX14_nameOf 27 = .ok (.imul, 1) := by decide +kernel
theorem dX14_nameOf_28 : decode cX14_nameOf 28 = .ok (.iload 4, 2) := by decide +kernel
theorem dX14_nameOf_30 : decode cX14_nameOf 30 = .ok (.iadd, 1) := by decide +kernel
theorem dX14_nameOf_31 : decode cX14_nameOf 31 = .ok (.iaload, 1) := by decide +kernel
theorem dX14_nameOf_32 : decode cX14_nameOf 32 = .ok (.iload_n 2, 1) := by decide +kernel
theorem dX14_nameOf_33 : decode cX14_nameOf 33 = .ok (.iload_n 1, 1) := by decide +kernel
theorem dX14_nameOf_34 : decode cX14_nameOf 34 = .ok (.isub, 1) := by decide +kernel
theorem dX14_nameOf_35 : decode cX14_nameOf 35 = .ok (.if_icmp .ne 7, 3) := by decide +kernel
theorem dX14_nameOf_38 : decode cX14_nameOf 38 = .ok (.iconst 1, 1) := by decide +kernel
theorem dX14_nameOf_39 : decode cX14_nameOf 39 = .ok (.goto 4, 3) := by decide +kernel
theorem dX14_nameOf_42 : decode cX14_nameOf 42 = .ok (.iconst 0, 1) := by decide +kernel
theorem dX14_nameOf_43 : decode cX14_nameOf 43 = .ok (.istore 5, 2) := by decide +kernel
theorem dX14_nameOf_45 : decode cX14_nameOf 45 = .ok (.iconst 0, 1) := by decide +kernel
theorem dX14_nameOf_46 : decode cX14_nameOf 46 = .ok (.istore 6, 2) := by decide +kernel
theorem dX14_nameOf_48 : decode cX14_nameOf 48 = .ok (.iload 6, 2) := by decide +kernel
theorem dX14_nameOf_50 : decode cX14_nameOf 50 = .ok (.aload_n 0, 1) := by decide +kernel
theorem dX14_nameOf_51 : decode cX14_nameOf 51 = .ok (.getfield 31, 3) := by decide +kernel
theorem dX14_nameOf_54 : decode cX14_nameOf 54 = .ok (.sipush 1001, 3) := by decide +kernel
theorem dX14_nameOf_57 : decode cX14_nameOf 57 = .ok (.iload_n 3, 1) := by decide +kernel
theorem dX14_nameOf_58 : decode cX14_nameOf 58 = .ok (.imul, 1) := by decide +kernel
theorem dX14_nameOf_59 : decode cX14_nameOf 59 = .ok (.iload 4, 2) := by decide +kernel
theorem dX14_nameOf_61 : decode cX14_nameOf 61 = .ok (.iadd, 1) := by decide +kernel
theorem dX14_nameOf_62 : decode cX14_nameOf 62 = .ok (.iaload, 1) := by decide +kernel
theorem dX14_nameOf_63 : decode cX14_nameOf 63 = .ok (.if_icmp .ge 52, 3) := by decide +kernel
theorem dX14_nameOf_66 : decode cX14_nameOf 66 = .ok (.iload 5, 2) := by decide +kernel
theorem dX14_nameOf_68 : decode cX14_nameOf 68 = .ok (.ifCond .eq 47, 3) := by decide +kernel
theorem dX14_nameOf_71 : decode cX14_nameOf 71 = .ok (.aload_n 0, 1) := by decide +kernel
theorem dX14_nameOf_72 : decode cX14_nameOf 72 = .ok (.getfield 34, 3) := by decide +kernel
theorem dX14_nameOf_75 : decode cX14_nameOf 75 = .ok (.sipush 12012, 3) := by decide +kernel
theorem dX14_nameOf_78 : decode cX14_nameOf 78 = .ok (.iload_n 3, 1) := by decide +kernel
theorem dX14_nameOf_79 : decode cX14_nameOf 79 = .ok (.imul, 1) := by decide +kernel
theorem dX14_nameOf_80 : decode cX14_nameOf 80 = .ok (.bipush 12, 2) := by decide +kernel
theorem dX14_nameOf_82 : decode cX14_nameOf 82 = .ok (.iload 4, 2) := by decide +kernel
theorem dX14_nameOf_84 : decode cX14_nameOf 84 = .ok (.imul, 1) := by decide +kernel
theorem dX14_nameOf_85 : decode cX14_nameOf 85 = .ok (.iadd, 1) := by decide +kernel
theorem dX14_nameOf_86 : decode cX14_nameOf 86 = .ok (.iload 6, 2) := by decide +kernel
theorem dX14_nameOf_88 : decode cX14_nameOf 88 = .ok (.iadd, 1) := by decide +kernel
theorem dX14_nameOf_89 : decode cX14_nameOf 89 = .ok (.iaload, 1) := by decide +kernel
theorem dX14_nameOf_90 : decode cX14_nameOf 90 = .ok (.aload_n 0, 1) := by decide +kernel
theorem dX14_nameOf_91 : decode cX14_nameOf 91 = .ok (.getfield 137, 3) := by decide +kernel
theorem dX14_nameOf_94 : decode cX14_nameOf 94 = .ok (.iload_n 1, 1) := by decide +kernel
theorem dX14_nameOf_95 : decode cX14_nameOf 95 = .ok (.iload 6, 2) := by decide +kernel
theorem dX14_nameOf_97 : decode cX14_nameOf 97 = .ok (.iadd, 1) := by decide +kernel
theorem dX14_nameOf_98 : decode cX14_nameOf 98 = .ok (.iaload, 1) := by decide +kernel
theorem dX14_nameOf_99 : decode cX14_nameOf 99 = .ok (.if_icmp .ne 7, 3) := by decide +kernel
theorem dX14_nameOf_102 : decode cX14_nameOf 102 = .ok (.iconst 1, 1) := by decide +kernel
theorem dX14_nameOf_103 : decode cX14_nameOf 103 = .ok (.goto 4, 3) := by decide +kernel
theorem dX14_nameOf_106 : decode cX14_nameOf 106 = .ok (.iconst 0, 1) := by decide +kernel
theorem dX14_nameOf_107 : decode cX14_nameOf 107 = .ok (.istore 5, 2) := by decide +kernel
theorem dX14_nameOf_109 : decode cX14_nameOf 109 = .ok (.iinc 6 1, 3) := by decide +kernel
theorem dX14_nameOf_112 : decode cX14_nameOf 112 = .ok (.goto (-64), 3) := by decide +kernel
theorem dX14_nameOf_115 : decode cX14_nameOf 115 = .ok (.iload 5, 2) := by decide +kernel
theorem dX14_nameOf_117 : decode cX14_nameOf 117 = .ok (.ifCond .eq 6, 3) := by decide +kernel
theorem dX14_nameOf_120 : decode cX14_nameOf 120 = .ok (.iload 4, 2) := by decide +kernel
theorem dX14_nameOf_122 : decode cX14_nameOf 122 = .ok (.ireturn, 1) := by decide +kernel
theorem dX14_nameOf_123 : decode cX14_nameOf 123 = .ok (.iinc 4 1, 3) := by decide +kernel
theorem dX14_nameOf_126 : decode cX14_nameOf 126 = .ok (.goto (-118), 3) := by decide +kernel
theorem dX14_nameOf_129 : decode cX14_nameOf 129 = .ok (.aload_n 0, 1) := by decide +kernel
theorem dX14_nameOf_130 : decode cX14_nameOf 130 = .ok (.getfield 7, 3) := by decide +kernel
theorem dX14_nameOf_133 : decode cX14_nameOf 133 = .ok (.iload_n 3, 1) := by decide +kernel
theorem dX14_nameOf_134 : decode cX14_nameOf 134 = .ok (.dup2, 1) := by decide +kernel
theorem dX14_nameOf_135 : decode cX14_nameOf 135 = .ok (.iaload, 1) := by decide +kernel
theorem dX14_nameOf_136 : decode cX14_nameOf 136 = .ok (.iconst 1, 1) := by decide +kernel
theorem dX14_nameOf_137 : decode cX14_nameOf 137 = .ok (.iadd, 1) := by decide +kernel
theorem dX14_nameOf_138 : decode cX14_nameOf 138 = .ok (.iastore, 1) := by decide +kernel
theorem dX14_nameOf_139 : decode cX14_nameOf 139 = .ok (.aload_n 0, 1) := by decide +kernel
theorem dX14_nameOf_140 : decode cX14_nameOf 140 = .ok (.getfield 31, 3) := by decide +kernel
theorem dX14_nameOf_143 : decode cX14_nameOf 143 = .ok (.sipush 1001, 3) := by decide +kernel
theorem dX14_nameOf_146 : decode cX14_nameOf 146 = .ok (.iload_n 3, 1) := by decide +kernel
theorem dX14_nameOf_147 : decode cX14_nameOf 147 = .ok (.imul, 1) := by decide +kernel
theorem dX14_nameOf_148 : decode cX14_nameOf 148 = .ok (.aload_n 0, 1) := by decide +kernel
theorem dX14_nameOf_149 : decode cX14_nameOf 149 = .ok (.getfield 7, 3) := by decide +kernel
theorem dX14_nameOf_152 : decode cX14_nameOf 152 = .ok (.iload_n 3, 1) := by decide +kernel
theorem dX14_nameOf_153 : decode cX14_nameOf 153 = .ok (.iaload, 1) := by decide +kernel
theorem dX14_nameOf_154 : decode cX14_nameOf 154 = .ok (.iadd, 1) := by decide +kernel
theorem dX14_nameOf_155 : decode cX14_nameOf 155 = .ok (.iload_n 2, 1) := by decide +kernel
theorem dX14_nameOf_156 : decode cX14_nameOf 156 = .ok (.iload_n 1, 1) := by decide +kernel
theorem dX14_nameOf_157 : decode cX14_nameOf 157 = .ok (.isub, 1) := by decide +kernel
theorem dX14_nameOf_158 : decode cX14_nameOf 158 = .ok (.iastore, 1) := by decide +kernel
theorem dX14_nameOf_159 : decode cX14_nameOf 159 = .ok (.iload_n 1, 1) := by decide +kernel
theorem dX14_nameOf_160 : decode cX14_nameOf 160 = .ok (.istore 4, 2) := by decide +kernel
theorem dX14_nameOf_162 : decode cX14_nameOf 162 = .ok (.iload 4, 2) := by decide +kernel
theorem dX14_nameOf_164 : decode cX14_nameOf 164 = .ok (.iload_n 2, 1) := by decide +kernel
theorem dX14_nameOf_165 : decode cX14_nameOf 165 = .ok (.if_icmp .ge 41, 3) := by decide +kernel
theorem dX14_nameOf_168 : decode cX14_nameOf 168 = .ok (.aload_n 0, 1) := by decide +kernel
theorem dX14_nameOf_169 : decode cX14_nameOf 169 = .ok (.getfield 34, 3) := by decide +kernel
theorem dX14_nameOf_172 : decode cX14_nameOf 172 = .ok (.sipush 12012, 3) := by decide +kernel
theorem dX14_nameOf_175 : decode cX14_nameOf 175 = .ok (.iload_n 3, 1) := by decide +kernel
theorem dX14_nameOf_176 : decode cX14_nameOf 176 = .ok (.imul, 1) := by decide +kernel
theorem dX14_nameOf_177 : decode cX14_nameOf 177 = .ok (.bipush 12, 2) := by decide +kernel
theorem dX14_nameOf_179 : decode cX14_nameOf 179 = .ok (.aload_n 0, 1) := by decide +kernel
theorem dX14_nameOf_180 : decode cX14_nameOf 180 = .ok (.getfield 7, 3) := by decide +kernel
theorem dX14_nameOf_183 : decode cX14_nameOf 183 = .ok (.iload_n 3, 1) := by decide +kernel
theorem dX14_nameOf_184 : decode cX14_nameOf 184 = .ok (.iaload, 1) := by decide +kernel
theorem dX14_nameOf_185 : decode cX14_nameOf 185 = .ok (.imul, 1) := by decide +kernel
theorem dX14_nameOf_186 : decode cX14_nameOf 186 = .ok (.iadd, 1) := by decide +kernel
theorem dX14_nameOf_187 : decode cX14_nameOf 187 = .ok (.iload 4, 2) := by decide +kernel
theorem dX14_nameOf_189 : decode cX14_nameOf 189 = .ok (.iadd, 1) := by decide +kernel
theorem dX14_nameOf_190 : decode cX14_nameOf 190 = .ok (.iload_n 1, 1) := by decide +kernel
theorem dX14_nameOf_191 : decode cX14_nameOf 191 = .ok (.isub, 1) := by decide +kernel
theorem dX14_nameOf_192 : decode cX14_nameOf 192 = .ok (.aload_n 0, 1) := by decide +kernel
theorem dX14_nameOf_193 : decode cX14_nameOf 193 = .ok (.getfield 137, 3) := by decide +kernel
theorem dX14_nameOf_196 : decode cX14_nameOf 196 = .ok (.iload 4, 2) := by decide +kernel
theorem dX14_nameOf_198 : decode cX14_nameOf 198 = .ok (.iaload, 1) := by decide +kernel
theorem dX14_nameOf_199 : decode cX14_nameOf 199 = .ok (.iastore, 1) := by decide +kernel
theorem dX14_nameOf_200 : decode cX14_nameOf 200 = .ok (.iinc 4 1, 3) := by decide +kernel
theorem dX14_nameOf_203 : decode cX14_nameOf 203 = .ok (.goto (-41), 3) := by decide +kernel
theorem dX14_nameOf_206 : decode cX14_nameOf 206 = .ok (.aload_n 0, 1) := by decide +kernel
theorem dX14_nameOf_207 : decode cX14_nameOf 207 = .ok (.getfield 7, 3) := by decide +kernel
theorem dX14_nameOf_210 : decode cX14_nameOf 210 = .ok (.iload_n 3, 1) := by decide +kernel
theorem dX14_nameOf_211 : decode cX14_nameOf 211 = .ok (.iaload, 1) := by decide +kernel
theorem dX14_nameOf_212 : decode cX14_nameOf 212 = .ok (.ireturn, 1) := by decide +kernel
theorem dX14_next_0 : decode cX14_next 0 = .ok (.aload_n 0, 1) := by decide +kernel
theorem dX14_next_1 : decode cX14_next 1 = .ok (.invokevirtual 252, 3) := by decide +kernel
theorem dX14_next_4 : decode cX14_next 4 = .ok (.bipush 9, 2) := by decide +kernel
theorem dX14_next_6 : decode cX14_next 6 = .ok (.if_icmp .eq 30, 3) := by decide +kernel
theorem dX14_next_9 : decode cX14_next 9 = .ok (.aload_n 0, 1) := by decide +kernel
theorem dX14_next_10 : decode cX14_next 10 = .ok (.invokevirtual 252, 3) := by decide +kernel
theorem dX14_next_13 : decode cX14_next 13 = .ok (.bipush 10, 2) := by decide +kernel
theorem dX14_next_15 : decode cX14_next 15 = .ok (.if_icmp .eq 21, 3) := by decide +kernel
theorem dX14_next_18 : decode cX14_next 18 = .ok (.aload_n 0, 1) := by decide +kernel
theorem dX14_next_19 : decode cX14_next 19 = .ok (.invokevirtual 252, 3) := by decide +kernel
theorem dX14_next_22 : decode cX14_next 22 = .ok (.bipush 13, 2) := by decide +kernel
theorem dX14_next_24 : decode cX14_next 24 = .ok (.if_icmp .eq 12, 3) := by decide +kernel
theorem dX14_next_27 : decode cX14_next 27 = .ok (.aload_n 0, 1) := by decide +kernel
theorem dX14_next_28 : decode cX14_next 28 = .ok (.invokevirtual 252, 3) := by decide +kernel
theorem dX14_next_31 : decode cX14_next 31 = .ok (.bipush 32, 2) := by decide +kernel
theorem dX14_next_33 : decode cX14_next 33 = .ok (.if_icmp .ne 35, 3) := by decide +kernel
theorem dX14_next_36 : decode cX14_next 36 = .ok (.aload_n 0, 1) := by decide +kernel
theorem dX14_next_37 : decode cX14_next 37 = .ok (.invokevirtual 252, 3) := by decide +kernel
theorem dX14_next_40 : decode cX14_next 40 = .ok (.bipush 10, 2) := by decide +kernel
theorem dX14_next_42 : decode cX14_next 42 = .ok (.if_icmp .ne 13, 3) := by decide +kernel
theorem dX14_next_45 : decode cX14_next 45 = .ok (.aload_n 0, 1) := by decide +kernel
theorem dX14_next_46 : decode cX14_next 46 = .ok (.dup, 1) := by decide +kernel
theorem dX14_next_47 : decode cX14_next 47 = .ok (.getfield 256, 3) := by decide +kernel
theorem dX14_next_50 : decode cX14_next 50 = .ok (.iconst 1, 1) := by decide +kernel
theorem dX14_next_51 : decode cX14_next 51 = .ok (.iadd, 1) := by decide +kernel
theorem dX14_next_52 : decode cX14_next 52 = .ok (.putfield 256, 3) := by decide +kernel
theorem dX14_next_55 : decode cX14_next 55 = .ok (.aload_n 0, 1) := by decide +kernel
theorem dX14_next_56 : decode cX14_next 56 = .ok (.dup, 1) := by decide +kernel
theorem dX14_next_57 : decode cX14_next 57 = .ok (.getfield 190, 3) := by decide +kernel
theorem dX14_next_60 : decode cX14_next 60 = .ok (.iconst 1, 1) := by decide +kernel
theorem dX14_next_61 : decode cX14_next 61 = .ok (.iadd, 1) := by decide +kernel
theorem dX14_next_62 : decode cX14_next 62 = .ok (.putfield 190, 3) := by decide +kernel
theorem dX14_next_65 : decode cX14_next 65 = .ok (.goto (-65), 3) := by decide +kernel
theorem dX14_next_68 : decode cX14_next 68 = .ok (.aload_n 0, 1) := by decide +kernel
theorem dX14_next_69 : decode cX14_next 69 = .ok (.aload_n 0, 1) := by decide +kernel
theorem dX14_next_70 : decode cX14_next 70 = .ok (.getfield 256, 3) := by decide +kernel
theorem dX14_next_73 : decode cX14_next 73 = .ok (.putfield 259, 3) := by decide +kernel
theorem dX14_next_76 : decode cX14_next 76 = .ok (.aload_n 0, 1) := by decide +kernel
theorem dX14_next_77 : decode cX14_next 77 = .ok (.getfield 190, 3) := by decide +kernel
theorem dX14_next_80 : decode cX14_next 80 = .ok (.istore_n 1, 1) := by decide +kernel
theorem dX14_next_81 : decode cX14_next 81 = .ok (.aload_n 0, 1) := by decide +kernel
theorem dX14_next_82 : decode cX14_next 82 = .ok (.invokevirtual 252, 3) := by decide +kernel
theorem dX14_next_85 : decode cX14_next 85 = .ok (.istore_n 2, 1) := by decide +kernel
theorem dX14_next_86 : decode cX14_next 86 = .ok (.aload_n 0, 1) := by decide +kernel
theorem dX14_next_87 : decode cX14_next 87 = .ok (.iload_n 2, 1) := by decide +kernel
theorem dX14_next_88 : decode cX14_next 88 = .ok (.putfield 262, 3) := by decide +kernel
theorem dX14_next_91 : decode cX14_next 91 = .ok (.iload_n 2, 1) := by decide +kernel
theorem dX14_next_92 : decode cX14_next 92 = .ok (.ifCond .ge 11, 3) := by decide +kernel
theorem dX14_next_95 : decode cX14_next 95 = .ok (.aload_n 0, 1) := by decide +kernel
theorem dX14_next_96 : decode cX14_next 96 = .ok (.iconst 0, 1) := by decide +kernel
theorem dX14_next_97 : decode cX14_next 97 = .ok (.putfield 265, 3) := by decide +kernel
theorem dX14_next_100 : decode cX14_next 100 = .ok (.goto 281, 3) := by decide +kernel
theorem dX14_next_103 : decode cX14_next 103 = .ok (.iload_n 2, 1) := by decide +kernel
theorem dX14_next_104 : decode cX14_next 104 = .ok (.invokestatic 268, 3) := by decide +kernel
theorem dX14_next_107 : decode cX14_next 107 = .ok (.ifCond .eq 119, 3) := by decide +kernel
theorem dX14_next_110 : decode cX14_next 110 = .ok (.aload_n 0, 1) := by decide +kernel
theorem dX14_next_111 : decode cX14_next 111 = .ok (.invokevirtual 252, 3) := by decide +kernel
theorem dX14_next_114 : decode cX14_next 114 = .ok (.invokestatic 268, 3) := by decide +kernel
theorem dX14_next_117 : decode cX14_next 117 = .ok (.ifCond .ne 13, 3) := by decide +kernel
theorem dX14_next_120 : decode cX14_next 120 = .ok (.aload_n 0, 1) := by decide +kernel
theorem dX14_next_121 : decode cX14_next 121 = .ok (.invokevirtual 252, 3) := by decide +kernel
theorem dX14_next_124 : decode cX14_next 124 = .ok (.invokestatic 272, 3) := by decide +kernel
theorem dX14_next_127 : decode cX14_next 127 = .ok (.ifCond .eq 16, 3) := by decide +kernel
theorem dX14_next_130 : decode cX14_next 130 = .ok (.aload_n 0, 1) := by decide +kernel
theorem dX14_next_131 : decode cX14_next 131 = .ok (.dup, 1) := by decide +kernel
theorem dX14_next_132 : decode cX14_next 132 = .ok (.getfield 190, 3) := by decide +kernel
theorem dX14_next_135 : decode cX14_next 135 = .ok (.iconst 1, 1) := by decide +kernel
theorem dX14_next_136 : decode cX14_next 136 = .ok (.iadd, 1) := by decide +kernel
theorem dX14_next_137 : decode cX14_next 137 = .ok (.putfield 190, 3) := by decide +kernel
theorem dX14_next_140 : decode cX14_next 140 = .ok (.goto (-30), 3) := by decide +kernel
theorem dX14_next_143 : decode cX14_next 143 = .ok (.aload_n 0, 1) := by decide +kernel
theorem dX14_next_144 : decode cX14_next 144 = .ok (.aload_n 0, 1) := by decide +kernel
theorem dX14_next_145 : decode cX14_next 145 = .ok (.getfield 190, 3) := by decide +kernel
theorem dX14_next_148 : decode cX14_next 148 = .ok (.iload_n 1, 1) := by decide +kernel
theorem dX14_next_149 : decode cX14_next 149 = .ok (.isub, 1) := by decide +kernel
theorem dX14_next_150 : decode cX14_next 150 = .ok (.bipush 12, 2) := by decide +kernel
theorem dX14_next_152 : decode cX14_next 152 = .ok (.if_icmp .le 7, 3) := by decide +kernel
theorem dX14_next_155 : decode cX14_next 155 = .ok (.iconst 0, 1) := by decide +kernel
theorem dX14_next_156 : decode cX14_next 156 = .ok (.goto 12, 3) := by decide +kernel
theorem dX14_next_159 : decode cX14_next 159 = .ok (.aload_n 0, 1) := by decide +kernel
theorem dX14_next_160 : decode cX14_next 160 = .ok (.iload_n 1, 1) := by decide +kernel
theorem dX14_next_161 : decode cX14_next 161 = .ok (.aload_n 0, 1) := by decide +kernel
theorem dX14_next_162 : decode cX14_next 162 = .ok (.getfield 190, 3) := by decide +kernel
theorem dX14_next_165 : decode cX14_next 165 = .ok (.invokevirtual 275, 3) := by decide +kernel
theorem dX14_next_168 : decode cX14_next 168 = .ok (.putfield 262, 3) := by decide +kernel
theorem dX14_next_171 : decode cX14_next 171 = .ok (.aload_n 0, 1) := by decide +kernel
theorem dX14_next_172 : decode cX14_next 172 = .ok (.aload_n 0, 1) := by decide +kernel
theorem dX14_next_173 : decode cX14_next 173 = .ok (.getfield 190, 3) := by decide +kernel
theorem dX14_next_176 : decode cX14_next 176 = .ok (.iload_n 1, 1) := by decide +kernel
theorem dX14_next_177 : decode cX14_next 177 = .ok (.isub, 1) := by decide +kernel
theorem dX14_next_178 : decode cX14_next 178 = .ok (.bipush 12, 2) := by decide +kernel
theorem dX14_next_180 : decode cX14_next 180 = .ok (.if_icmp .le 7, 3) := by decide +kernel
theorem dX14_next_183 : decode cX14_next 183 = .ok (.iconst 5, 1) := by decide +kernel
theorem dX14_next_184 : decode cX14_next 184 = .ok (.goto 15, 3) := by decide +kernel
theorem dX14_next_187 : decode cX14_next 187 = .ok (.aload_n 0, 1) := by decide +kernel
theorem dX14_next_188 : decode cX14_next 188 = .ok (.getfield 262, 3) := by decide +kernel
theorem dX14_next_191 : decode cX14_next 191 = .ok (.ifCond .le 7, 3) := by decide +kernel
theorem dX14_next_194 : decode cX14_next 194 = .ok (.iconst 1, 1) := by decide +kernel
theorem dX14_next_195 : decode cX14_next 195 = .ok (.goto 4, 3) := by decide +kernel
theorem dX14_next_198 : decode cX14_next 198 = .ok (.iconst 2, 1) := by decide +kernel
theorem dX14_next_199 : decode cX14_next 199 = .ok (.putfield 265, 3) := by decide +kernel
theorem dX14_next_202 : decode cX14_next 202 = .ok (.aload_n 0, 1) := by decide +kernel
theorem dX14_next_203 : decode cX14_next 203 = .ok (.getfield 265, 3) := by decide +kernel
theorem dX14_next_206 : decode cX14_next 206 = .ok (.iconst 2, 1) := by decide +kernel
theorem dX14_next_207 : decode cX14_next 207 = .ok (.if_icmp .ne 174, 3) := by decide +kernel
theorem dX14_next_210 : decode cX14_next 210 = .ok (.aload_n 0, 1) := by decide +kernel
theorem dX14_next_211 : decode cX14_next 211 = .ok (.aload_n 0, 1) := by decide +kernel
theorem dX14_next_212 : decode cX14_next 212 = .ok (.iload_n 1, 1) := by decide +kernel
theorem dX14_next_213 : decode cX14_next 213 = .ok (.aload_n 0, 1) := by decide +kernel
theorem dX14_next_214 : decode cX14_next 214 = .ok (.getfield 190, 3) := by decide +kernel
theorem dX14_next_217 : decode cX14_next 217 = .ok (.invokevirtual 279, 3) := by decide +kernel
theorem dX14_next_220 : decode cX14_next 220 = .ok (.putfield 262, 3) := by decide +kernel
theorem dX14_next_223 : decode cX14_next 223 = .ok (.goto 158, 3) := by decide +kernel
theorem dX14_next_226 : decode cX14_next 226 = .ok (.iload_n 2, 1) := by decide +kernel
theorem dX14_next_227 : decode cX14_next 227 = .ok (.invokestatic 272, 3) := by decide +kernel
theorem dX14_next_230 : decode cX14_next 230 = .ok (.ifCond .eq 90, 3) := by decide +kernel
theorem dX14_next_233 : decode cX14_next 233 = .ok (.iconst 0, 1) := by decide +kernel
theorem dX14_next_234 : decode cX14_next 234 = .ok (.istore_n 3, 1) := by decide +kernel
theorem dX14_next_235 : decode cX14_next 235 = .ok (.aload_n 0, 1) := by decide +kernel
theorem dX14_next_236 : decode cX14_next 236 = .ok (.invokevirtual 252, 3) := by decide +kernel
theorem dX14_next_239 : decode cX14_next 239 = .ok (.invokestatic 272, 3) := by decide +kernel
theorem dX14_next_242 : decode cX14_next 242 = .ok (.ifCond .eq 40, 3) := by decide +kernel
theorem dX14_next_245 : decode cX14_next 245 = .ok (.aload_n 0, 1) := by decide +kernel
theorem dX14_next_246 : decode cX14_next 246 = .ok (.getfield 190, 3) := by decide +kernel
theorem dX14_next_249 : decode cX14_next 249 = .ok (.iload_n 1, 1) := by decide +kernel
theorem dX14_next_250 : decode cX14_next 250 = .ok (.isub, 1) := by decide +kernel
theorem dX14_next_251 : decode cX14_next 251 = .ok (.bipush 7, 2) := by decide +kernel
theorem dX14_next_253 : decode cX14_next 253 = .ok (.if_icmp .ge 29, 3) := by decide +kernel
theorem dX14_next_256 : decode cX14_next 256 = .ok (.bipush 10, 2) := by decide +kernel
theorem dX14_next_258 : decode cX14_next 258 = .ok (.iload_n 3, 1) := by decide +kernel
theorem dX14_next_259 : decode cX14_next 259 = .ok (.imul, 1) := by decide +kernel
theorem dX14_next_260 : decode cX14_next 260 = .ok (.aload_n 0, 1) := by decide +kernel
theorem dX14_next_261 : decode cX14_next 261 = .ok (.invokevirtual 252, 3) := by decide +kernel
theorem dX14_next_264 : decode cX14_next 264 = .ok (.iadd, 1) := by decide +kernel
theorem dX14_next_265 : decode cX14_next 265 = .ok (.bipush 48, 2) := by decide +kernel
theorem dX14_next_267 : decode cX14_next 267 = .ok (.isub, 1) := by decide +kernel
theorem dX14_next_268 : decode cX14_next 268 = .ok (.istore_n 3, 1) := by decide +kernel
theorem dX14_next_269 : decode cX14_next 269 = .ok (.aload_n 0, 1) := by decide +kernel
theorem dX14_next_270 : decode cX14_next 270 = .ok (.dup, 1) := by decide +kernel
theorem dX14_next_271 : decode cX14_next 271 = .ok (.getfield 190, 3) := by decide +kernel
theorem dX14_next_274 : decode cX14_next 274 = .ok (.iconst 1, 1) := by decide +kernel
theorem dX14_next_275 : decode cX14_next 275 = .ok (.iadd, 1) := by decide +kernel
theorem dX14_next_276 : decode cX14_next 276 = .ok (.putfield 190, 3) := by decide +kernel
theorem dX14_next_279 : decode cX14_next 279 = .ok (.goto (-44), 3) := by decide +kernel
theorem dX14_next_282 : decode cX14_next 282 = .ok (.aload_n 0, 1) := by decide +kernel
theorem dX14_next_283 : decode cX14_next 283 = .ok (.aload_n 0, 1) := by decide +kernel
theorem dX14_next_284 : decode cX14_next 284 = .ok (.getfield 190, 3) := by decide +kernel
theorem dX14_next_287 : decode cX14_next 287 = .ok (.iload_n 1, 1) := by decide +kernel
theorem dX14_next_288 : decode cX14_next 288 = .ok (.isub, 1) := by decide +kernel
theorem dX14_next_289 : decode cX14_next 289 = .ok (.bipush 6, 2) := by decide +kernel
theorem dX14_next_291 : decode cX14_next 291 = .ok (.if_icmp .gt 13, 3) := by decide +kernel
theorem dX14_next_294 : decode cX14_next 294 = .ok (.aload_n 0, 1) := by decide +kernel
theorem dX14_next_295 : decode cX14_next 295 = .ok (.invokevirtual 252, 3) := by decide +kernel
theorem dX14_next_298 : decode cX14_next 298 = .ok (.invokestatic 268, 3) := by decide +kernel
theorem dX14_next_301 : decode cX14_next 301 = .ok (.ifCond .eq 7, 3) := by decide +kernel
theorem dX14_next_304 : decode cX14_next 304 = .ok (.iconst 5, 1) := by decide +kernel
theorem dX14_next_305 : decode cX14_next 305 = .ok (.goto 4, 3) := by decide +kernel
theorem dX14_next_308 : decode cX14_next 308 = .ok (.iconst 3, 1) := by decide +kernel
theorem dX14_next_309 : decode cX14_next 309 = .ok (.putfield 265, 3) := by decide +kernel
theorem dX14_next_312 : decode cX14_next 312 = .ok (.aload_n 0, 1) := by decide +kernel
theorem dX14_next_313 : decode cX14_next 313 = .ok (.iload_n 3, 1) := by decide +kernel
theorem dX14_next_314 : decode cX14_next 314 = .ok (.putfield 262, 3) := by decide +kernel
theorem dX14_next_317 : decode cX14_next 317 = .ok (.goto 64, 3) := by decide +kernel
theorem dX14_next_320 : decode cX14_next 320 = .ok (.aload_n 0, 1) := by decide +kernel
theorem dX14_next_321 : decode cX14_next 321 = .ok (.iload_n 2, 1) := by decide +kernel
theorem dX14_next_322 : decode cX14_next 322 = .ok (.bipush 123, 2) := by decide +kernel
theorem dX14_next_324 : decode cX14_next 324 = .ok (.if_icmp .eq 39, 3) := by decide +kernel
theorem dX14_next_327 : decode cX14_next 327 = .ok (.iload_n 2, 1) := by decide +kernel
theorem dX14_next_328 : decode cX14_next 328 = .ok (.bipush 125, 2) := by decide +kernel
theorem dX14_next_330 : decode cX14_next 330 = .ok (.if_icmp .eq 33, 3) := by decide +kernel
theorem dX14_next_333 : decode cX14_next 333 = .ok (.iload_n 2, 1) := by decide +kernel
theorem dX14_next_334 : decode cX14_next 334 = .ok (.bipush 59, 2) := by decide +kernel
theorem dX14_next_336 : decode cX14_next 336 = .ok (.if_icmp .eq 27, 3) := by decide +kernel
theorem dX14_next_339 : decode cX14_next 339 = .ok (.iload_n 2, 1) := by decide +kernel
theorem dX14_next_340 : decode cX14_next 340 = .ok (.bipush 58, 2) := by decide +kernel
theorem dX14_next_342 : decode cX14_next 342 = .ok (.if_icmp .eq 21, 3) := by decide +kernel
theorem dX14_next_345 : decode cX14_next 345 = .ok (.iload_n 2, 1) := by decide +kernel
theorem dX14_next_346 : decode cX14_next 346 = .ok (.bipush 61, 2) := by decide +kernel
theorem dX14_next_348 : decode cX14_next 348 = .ok (.if_icmp .eq 15, 3) := by decide +kernel
theorem dX14_next_351 : decode cX14_next 351 = .ok (.iload_n 2, 1) := by decide +kernel
theorem dX14_next_352 : decode cX14_next 352 = .ok (.bipush 47, 2) := by decide +kernel
theorem dX14_next_354 : decode cX14_next 354 = .ok (.if_icmp .eq 9, 3) := by decide +kernel
theorem dX14_next_357 : decode cX14_next 357 = .ok (.iload_n 2, 1) := by decide +kernel
theorem dX14_next_358 : decode cX14_next 358 = .ok (.bipush 45, 2) := by decide +kernel
theorem dX14_next_360 : decode cX14_next 360 = .ok (.if_icmp .ne 7, 3) := by decide +kernel
theorem dX14_next_363 : decode cX14_next 363 = .ok (.iconst 4, 1) := by decide +kernel
theorem dX14_next_364 : decode cX14_next 364 = .ok (.goto 4, 3) := by decide +kernel
theorem dX14_next_367 : decode cX14_next 367 = .ok (.iconst 5, 1) := by decide +kernel
theorem dX14_next_368 : decode cX14_next 368 = .ok (.putfield 265, 3) := by decide +kernel
theorem dX14_next_371 : decode cX14_next 371 = .ok (.aload_n 0, 1) := by decide +kernel
theorem dX14_next_372 : decode cX14_next 372 = .ok (.dup, 1) := by decide +kernel
theorem dX14_next_373 : decode cX14_next 373 = .ok (.getfield 190, 3) := by decide +kernel
theorem dX14_next_376 : decode cX14_next 376 = .ok (.iconst 1, 1) := by decide +kernel
theorem dX14_next_377 : decode cX14_next 377 = .ok (.iadd, 1) := by decide +kernel
theorem dX14_next_378 : decode cX14_next 378 = .ok (.putfield 190, 3) := by decide +kernel
theorem dX14_next_381 : decode cX14_next 381 = .ok (.return_, 1) := by decide +kernel
theorem dX14_wants_0 : decode cX14_wants 0 = .ok (.aload_n 0, 1) := by decide +kernel
theorem dX14_wants_1 : decode cX14_wants 1 = .ok (.aload_n 0, 1) := by decide +kernel
theorem dX14_wants_2 : decode cX14_wants 2 = .ok (.getfield 282, 3) := by decide +kernel
theorem dX14_wants_5 : decode cX14_wants 5 = .ok (.ifCond .eq 11, 3) := by decide +kernel
theorem dX14_wants_8 : decode cX14_wants 8 = .ok (.iload_n 1, 1) := by decide +kernel
theorem dX14_wants_9 : decode cX14_wants 9 = .ok (.ifCond .eq 7, 3) := by decide +kernel
theorem dX14_wants_12 : decode cX14_wants 12 = .ok (.iconst 1, 1) := by decide +kernel
theorem dX14_wants_13 : decode cX14_wants 13 = .ok (.goto 4, 3) := by decide +kernel
theorem dX14_wants_16 : decode cX14_wants 16 = .ok (.iconst 0, 1) := by decide +kernel
theorem dX14_wants_17 : decode cX14_wants 17 = .ok (.putfield 282, 3) := by decide +kernel
theorem dX14_wants_20 : decode cX14_wants 20 = .ok (.aload_n 0, 1) := by decide +kernel
theorem dX14_wants_21 : decode cX14_wants 21 = .ok (.getfield 282, 3) := by decide +kernel
theorem dX14_wants_24 : decode cX14_wants 24 = .ok (.ifCond .eq 7, 3) := by decide +kernel
theorem dX14_wants_27 : decode cX14_wants 27 = .ok (.aload_n 0, 1) := by decide +kernel
theorem dX14_wants_28 : decode cX14_wants 28 = .ok (.invokevirtual 286, 3) := by decide +kernel
theorem dX14_wants_31 : decode cX14_wants 31 = .ok (.aload_n 0, 1) := by decide +kernel
theorem dX14_wants_32 : decode cX14_wants 32 = .ok (.getfield 282, 3) := by decide +kernel
theorem dX14_wants_35 : decode cX14_wants 35 = .ok (.ireturn, 1) := by decide +kernel
theorem dX14_isWord_0 : decode cX14_isWord 0 = .ok (.aload_n 0, 1) := by decide +kernel
theorem dX14_isWord_1 : decode cX14_isWord 1 = .ok (.getfield 282, 3) := by decide +kernel
theorem dX14_isWord_4 : decode cX14_isWord 4 = .ok (.ifCond .eq 23, 3) := by decide +kernel
theorem dX14_isWord_7 : decode cX14_isWord 7 = .ok (.aload_n 0, 1) := by decide +kernel
theorem dX14_isWord_8 : decode cX14_isWord 8 = .ok (.getfield 265, 3) := by decide +kernel
theorem dX14_isWord_11 : decode cX14_isWord 11 = .ok (.iconst 1, 1) := by decide +kernel
theorem dX14_isWord_12 : decode cX14_isWord 12 = .ok (.if_icmp .ne 15, 3) := by decide +kernel
theorem dX14_isWord_15 : decode cX14_isWord 15 = .ok (.aload_n 0, 1) := by decide +kernel
theorem dX14_isWord_16 : decode cX14_isWord 16 = .ok (.getfield 262, 3) := by decide +kernel
theorem dX14_isWord_19 : decode cX14_isWord 19 = .ok (.iload_n 1, 1) := by decide +kernel
theorem dX14_isWord_20 : decode cX14_isWord 20 = .ok (.if_icmp .ne 7, 3) := by decide +kernel
theorem dX14_isWord_23 : decode cX14_isWord 23 = .ok (.iconst 1, 1) := by decide +kernel
theorem dX14_isWord_24 : decode cX14_isWord 24 = .ok (.goto 4, 3) := by decide +kernel
theorem dX14_isWord_27 : decode cX14_isWord 27 = .ok (.iconst 0, 1) := by decide +kernel
theorem dX14_isWord_28 : decode cX14_isWord 28 = .ok (.ireturn, 1) := by decide +kernel
theorem dX14_isSign_0 : decode cX14_isSign 0 = .ok (.aload_n 0, 1) := by decide +kernel
theorem dX14_isSign_1 : decode cX14_isSign 1 = .ok (.getfield 282, 3) := by decide +kernel
theorem dX14_isSign_4 : decode cX14_isSign 4 = .ok (.ifCond .eq 23, 3) := by decide +kernel
theorem dX14_isSign_7 : decode cX14_isSign 7 = .ok (.aload_n 0, 1) := by decide +kernel
theorem dX14_isSign_8 : decode cX14_isSign 8 = .ok (.getfield 265, 3) := by decide +kernel
theorem dX14_isSign_11 : decode cX14_isSign 11 = .ok (.iconst 4, 1) := by decide +kernel
theorem dX14_isSign_12 : decode cX14_isSign 12 = .ok (.if_icmp .ne 15, 3) := by decide +kernel
theorem dX14_isSign_15 : decode cX14_isSign 15 = .ok (.aload_n 0, 1) := by decide +kernel
theorem dX14_isSign_16 : decode cX14_isSign 16 = .ok (.getfield 262, 3) := by decide +kernel
theorem dX14_isSign_19 : decode cX14_isSign 19 = .ok (.iload_n 1, 1) := by decide +kernel
theorem dX14_isSign_20 : decode cX14_isSign 20 = .ok (.if_icmp .ne 7, 3) := by decide +kernel
theorem dX14_isSign_23 : decode cX14_isSign 23 = .ok (.iconst 1, 1) := by decide +kernel
theorem dX14_isSign_24 : decode cX14_isSign 24 = .ok (.goto 4, 3) := by decide +kernel
theorem dX14_isSign_27 : decode cX14_isSign 27 = .ok (.iconst 0, 1) := by decide +kernel
theorem dX14_isSign_28 : decode cX14_isSign 28 = .ok (.ireturn, 1) := by decide +kernel
theorem dX14_word_0 : decode cX14_word 0 = .ok (.aload_n 0, 1) := by decide +kernel
theorem dX14_word_1 : decode cX14_word 1 = .ok (.aload_n 0, 1) := by decide +kernel
theorem dX14_word_2 : decode cX14_word 2 = .ok (.getfield 265, 3) := by decide +kernel
theorem dX14_word_5 : decode cX14_word 5 = .ok (.iconst 1, 1) := by decide +kernel
theorem dX14_word_6 : decode cX14_word 6 = .ok (.if_icmp .ne 15, 3) := by decide +kernel
theorem dX14_word_9 : decode cX14_word 9 = .ok (.aload_n 0, 1) := by decide +kernel
theorem dX14_word_10 : decode cX14_word 10 = .ok (.getfield 262, 3) := by decide +kernel
theorem dX14_word_13 : decode cX14_word 13 = .ok (.iload_n 1, 1) := by decide +kernel
theorem dX14_word_14 : decode cX14_word 14 = .ok (.if_icmp .ne 7, 3) := by decide +kernel
theorem dX14_word_17 : decode cX14_word 17 = .ok (.iconst 1, 1) := by decide +kernel
theorem dX14_word_18 : decode cX14_word 18 = .ok (.goto 4, 3) := by decide +kernel
theorem dX14_word_21 : decode cX14_word 21 = .ok (.iconst 0, 1) := by decide +kernel
theorem dX14_word_22 : decode cX14_word 22 = .ok (.invokevirtual 289, 3) := by decide +kernel
theorem dX14_word_25 : decode cX14_word 25 = .ok (.istore_n 2, 1) := by decide +kernel
theorem dX14_word_26 : decode cX14_word 26 = .ok (.return_, 1) := by decide +kernel
theorem dX14_mark_0 : decode cX14_mark 0 = .ok (.aload_n 0, 1) := by decide +kernel
theorem dX14_mark_1 : decode cX14_mark 1 = .ok (.aload_n 0, 1) := by decide +kernel
theorem dX14_mark_2 : decode cX14_mark 2 = .ok (.getfield 265, 3) := by decide +kernel
theorem dX14_mark_5 : decode cX14_mark 5 = .ok (.iconst 4, 1) := by decide +kernel
theorem dX14_mark_6 : decode cX14_mark 6 = .ok (.if_icmp .ne 15, 3) := by decide +kernel
theorem dX14_mark_9 : decode cX14_mark 9 = .ok (.aload_n 0, 1) := by decide +kernel
theorem dX14_mark_10 : decode cX14_mark 10 = .ok (.getfield 262, 3) := by decide +kernel
theorem dX14_mark_13 : decode cX14_mark 13 = .ok (.iload_n 1, 1) := by decide +kernel
theorem dX14_mark_14 : decode cX14_mark 14 = .ok (.if_icmp .ne 7, 3) := by decide +kernel
theorem dX14_mark_17 : decode cX14_mark 17 = .ok (.iconst 1, 1) := by decide +kernel
theorem dX14_mark_18 : decode cX14_mark 18 = .ok (.goto 4, 3) := by decide +kernel
theorem dX14_mark_21 : decode cX14_mark 21 = .ok (.iconst 0, 1) := by decide +kernel
theorem dX14_mark_22 : decode cX14_mark 22 = .ok (.invokevirtual 289, 3) := by decide +kernel
theorem dX14_mark_25 : decode cX14_mark 25 = .ok (.istore_n 2, 1) := by decide +kernel
theorem dX14_mark_26 : decode cX14_mark 26 = .ok (.return_, 1) := by decide +kernel
theorem dX14_claim_0 : decode cX14_claim 0 = .ok (.aload_n 0, 1) := by decide +kernel
theorem dX14_claim_1 : decode cX14_claim 1 = .ok (.getfield 282, 3) := by decide +kernel
theorem dX14_claim_4 : decode cX14_claim 4 = .ok (.ifCond .ne 4, 3) := by decide +kernel
theorem dX14_claim_7 : decode cX14_claim 7 = .ok (.return_, 1) := by decide +kernel
theorem dX14_claim_8 : decode cX14_claim 8 = .ok (.aload_n 0, 1) := by decide +kernel
theorem dX14_claim_9 : decode cX14_claim 9 = .ok (.getfield 140, 3) := by decide +kernel
theorem dX14_claim_12 : decode cX14_claim 12 = .ok (.aload_n 0, 1) := by decide +kernel
theorem dX14_claim_13 : decode cX14_claim 13 = .ok (.getfield 293, 3) := by decide +kernel
theorem dX14_claim_16 : decode cX14_claim 16 = .ok (.iload_n 1, 1) := by decide +kernel
theorem dX14_claim_17 : decode cX14_claim 17 = .ok (.iastore, 1) := by decide +kernel
theorem dX14_claim_18 : decode cX14_claim 18 = .ok (.aload_n 0, 1) := by decide +kernel
theorem dX14_claim_19 : decode cX14_claim 19 = .ok (.getfield 143, 3) := by decide +kernel
theorem dX14_claim_22 : decode cX14_claim 22 = .ok (.aload_n 0, 1) := by decide +kernel
theorem dX14_claim_23 : decode cX14_claim 23 = .ok (.getfield 293, 3) := by decide +kernel
theorem dX14_claim_26 : decode cX14_claim 26 = .ok (.aload_n 0, 1) := by decide +kernel
theorem dX14_claim_27 : decode cX14_claim 27 = .ok (.getfield 259, 3) := by decide +kernel
theorem dX14_claim_30 : decode cX14_claim 30 = .ok (.iastore, 1) := by decide +kernel
theorem dX14_claim_31 : decode cX14_claim 31 = .ok (.aload_n 0, 1) := by decide +kernel
theorem dX14_claim_32 : decode cX14_claim 32 = .ok (.getfield 146, 3) := by decide +kernel
theorem dX14_claim_35 : decode cX14_claim 35 = .ok (.aload_n 0, 1) := by decide +kernel
theorem dX14_claim_36 : decode cX14_claim 36 = .ok (.getfield 293, 3) := by decide +kernel
theorem dX14_claim_39 : decode cX14_claim 39 = .ok (.iload_n 2, 1) := by decide +kernel
theorem dX14_claim_40 : decode cX14_claim 40 = .ok (.iastore, 1) := by decide +kernel
theorem dX14_claim_41 : decode cX14_claim 41 = .ok (.aload_n 0, 1) := by decide +kernel
theorem dX14_claim_42 : decode cX14_claim 42 = .ok (.getfield 149, 3) := by decide +kernel
theorem dX14_claim_45 : decode cX14_claim 45 = .ok (.aload_n 0, 1) := by decide +kernel
theorem dX14_claim_46 : decode cX14_claim 46 = .ok (.getfield 293, 3) := by decide +kernel
theorem dX14_claim_49 : decode cX14_claim 49 = .ok (.iload_n 3, 1) := by decide +kernel
theorem dX14_claim_50 : decode cX14_claim 50 = .ok (.iastore, 1) := by decide +kernel
theorem dX14_claim_51 : decode cX14_claim 51 = .ok (.aload_n 0, 1) := by decide +kernel
theorem dX14_claim_52 : decode cX14_claim 52 = .ok (.dup, 1) := by decide +kernel
theorem dX14_claim_53 : decode cX14_claim 53 = .ok (.getfield 293, 3) := by decide +kernel
theorem dX14_claim_56 : decode cX14_claim 56 = .ok (.iconst 1, 1) := by decide +kernel
theorem dX14_claim_57 : decode cX14_claim 57 = .ok (.iadd, 1) := by decide +kernel
theorem dX14_claim_58 : decode cX14_claim 58 = .ok (.putfield 293, 3) := by decide +kernel
theorem dX14_claim_61 : decode cX14_claim 61 = .ok (.return_, 1) := by decide +kernel
theorem dX14_name_0 : decode cX14_name 0 = .ok (.aload_n 0, 1) := by decide +kernel
theorem dX14_name_1 : decode cX14_name 1 = .ok (.getfield 262, 3) := by decide +kernel
theorem dX14_name_4 : decode cX14_name 4 = .ok (.istore_n 1, 1) := by decide +kernel
theorem dX14_name_5 : decode cX14_name 5 = .ok (.aload_n 0, 1) := by decide +kernel
theorem dX14_name_6 : decode cX14_name 6 = .ok (.aload_n 0, 1) := by decide +kernel
theorem dX14_name_7 : decode cX14_name 7 = .ok (.getfield 265, 3) := by decide +kernel
theorem dX14_name_10 : decode cX14_name 10 = .ok (.iconst 2, 1) := by decide +kernel
theorem dX14_name_11 : decode cX14_name 11 = .ok (.if_icmp .ne 7, 3) := by decide +kernel
theorem dX14_name_14 : decode cX14_name 14 = .ok (.iconst 1, 1) := by decide +kernel
theorem dX14_name_15 : decode cX14_name 15 = .ok (.goto 4, 3) := by decide +kernel
theorem dX14_name_18 : decode cX14_name 18 = .ok (.iconst 0, 1) := by decide +kernel
theorem dX14_name_19 : decode cX14_name 19 = .ok (.invokevirtual 289, 3) := by decide +kernel
theorem dX14_name_22 : decode cX14_name 22 = .ok (.ifCond .eq 7, 3) := by decide +kernel
theorem dX14_name_25 : decode cX14_name 25 = .ok (.iload_n 1, 1) := by decide +kernel
theorem dX14_name_26 : decode cX14_name 26 = .ok (.goto 4, 3) := by decide +kernel
theorem dX14_name_29 : decode cX14_name 29 = .ok (.iconst 0, 1) := by decide +kernel
theorem dX14_name_30 : decode cX14_name 30 = .ok (.ireturn, 1) := by decide +kernel
theorem dX14_number_0 : decode cX14_number 0 = .ok (.aload_n 0, 1) := by decide +kernel
theorem dX14_number_1 : decode cX14_number 1 = .ok (.getfield 262, 3) := by decide +kernel
theorem dX14_number_4 : decode cX14_number 4 = .ok (.istore_n 3, 1) := by decide +kernel
theorem dX14_number_5 : decode cX14_number 5 = .ok (.aload_n 0, 1) := by decide +kernel
theorem dX14_number_6 : decode cX14_number 6 = .ok (.aload_n 0, 1) := by decide +kernel
theorem dX14_number_7 : decode cX14_number 7 = .ok (.getfield 265, 3) := by decide +kernel
theorem dX14_number_10 : decode cX14_number 10 = .ok (.iconst 3, 1) := by decide +kernel
theorem dX14_number_11 : decode cX14_number 11 = .ok (.if_icmp .ne 17, 3) := by decide +kernel
theorem dX14_number_14 : decode cX14_number 14 = .ok (.iload_n 3, 1) := by decide +kernel
theorem dX14_number_15 : decode cX14_number 15 = .ok (.iload_n 1, 1) := by decide +kernel
theorem dX14_number_16 : decode cX14_number 16 = .ok (.if_icmp .lt 12, 3) := by decide +kernel
theorem dX14_number_19 : decode cX14_number 19 = .ok (.iload_n 3, 1) := by decide +kernel
theorem dX14_number_20 : decode cX14_number 20 = .ok (.iload_n 2, 1) := by decide +kernel
theorem dX14_number_21 : decode cX14_number 21 = .ok (.if_icmp .gt 7, 3) := by decide +kernel
theorem dX14_number_24 : decode cX14_number 24 = .ok (.iconst 1, 1) := by decide +kernel
theorem dX14_number_25 : decode cX14_number 25 = .ok (.goto 4, 3) := by decide +kernel
theorem dX14_number_28 : decode cX14_number 28 = .ok (.iconst 0, 1) := by decide +kernel
theorem dX14_number_29 : decode cX14_number 29 = .ok (.invokevirtual 289, 3) := by decide +kernel
theorem dX14_number_32 : decode cX14_number 32 = .ok (.ifCond .eq 7, 3) := by decide +kernel
theorem dX14_number_35 : decode cX14_number 35 = .ok (.iload_n 3, 1) := by decide +kernel
theorem dX14_number_36 : decode cX14_number 36 = .ok (.goto 4, 3) := by decide +kernel
theorem dX14_number_39 : decode cX14_number 39 = .ok (.iconst 0, 1) := by decide +kernel
theorem dX14_number_40 : decode cX14_number 40 = .ok (.ireturn, 1) := by decide +kernel
theorem dX14_signed_0 : decode cX14_signed 0 = .ok (.aload_n 0, 1) := by decide +kernel
theorem dX14_signed_1 : decode cX14_signed 1 = .ok (.bipush 45, 2) := by decide +kernel
theorem dX14_signed_3 : decode cX14_signed 3 = .ok (.invokevirtual 296, 3) := by decide +kernel
theorem dX14_signed_6 : decode cX14_signed 6 = .ok (.istore_n 1, 1) := by decide +kernel
theorem dX14_signed_7 : decode cX14_signed 7 = .ok (.iload_n 1, 1) := by decide +kernel
theorem dX14_signed_8 : decode cX14_signed 8 = .ok (.ifCond .eq 7, 3) := by decide +kernel
theorem dX14_signed_11 : decode cX14_signed 11 = .ok (.aload_n 0, 1) := by decide +kernel
theorem dX14_signed_12 : decode cX14_signed 12 = .ok (.invokevirtual 286, 3) := by decide +kernel
theorem dX14_signed_15 : decode cX14_signed 15 = .ok (.aload_n 0, 1) := by decide +kernel
theorem dX14_signed_16 : decode cX14_signed 16 = .ok (.iconst 0, 1) := by decide +kernel
theorem dX14_signed_17 : decode cX14_signed 17 = .ok (.ldc_w 299, 3) := by decide +kernel
theorem dX14_signed_20 : decode cX14_signed 20 = .ok (.invokevirtual 300, 3) := by decide +kernel
theorem dX14_signed_23 : decode cX14_signed 23 = .ok (.istore_n 2, 1) := by decide +kernel
theorem dX14_signed_24 : decode cX14_signed 24 = .ok (.iload_n 1, 1) := by decide +kernel
theorem dX14_signed_25 : decode cX14_signed 25 = .ok (.ifCond .eq 8, 3) := by decide +kernel
theorem dX14_signed_28 : decode cX14_signed 28 = .ok (.iload_n 2, 1) := by decide +kernel
theorem dX14_signed_29 : decode cX14_signed 29 = .ok (.ineg, 1) := by decide +kernel
theorem dX14_signed_30 : decode cX14_signed 30 = .ok (.goto 4, 3) := by decide +kernel
theorem dX14_signed_33 : decode cX14_signed 33 = .ok (.iload_n 2, 1) := by decide +kernel
theorem dX14_signed_34 : decode cX14_signed 34 = .ok (.ireturn, 1) := by decide +kernel
theorem dX14_begins_0 : decode cX14_begins 0 = .ok (.aload_n 0, 1) := by decide +kernel
theorem dX14_begins_1 : decode cX14_begins 1 = .ok (.iload_n 1, 1) := by decide +kernel
theorem dX14_begins_2 : decode cX14_begins 2 = .ok (.iload_n 2, 1) := by decide +kernel
theorem dX14_begins_3 : decode cX14_begins 3 = .ok (.if_icmp .ge 7, 3) := by decide +kernel
theorem dX14_begins_6 : decode cX14_begins 6 = .ok (.iconst 1, 1) := by decide +kernel
theorem dX14_begins_7 : decode cX14_begins 7 = .ok (.goto 4, 3) := by decide +kernel
theorem dX14_begins_10 : decode cX14_begins 10 = .ok (.iconst 0, 1) := by decide +kernel
theorem dX14_begins_11 : decode cX14_begins 11 = .ok (.invokevirtual 289, 3) := by decide +kernel
theorem dX14_begins_14 : decode cX14_begins 14 = .ok (.ireturn, 1) := by decide +kernel
theorem dX14_codingStatement_0 : decode cX14_codingStatement 0 = .ok (.aload_n 0, 1) := by decide +kernel
theorem dX14_codingStatement_1 : decode cX14_codingStatement 1 = .ok (.getfield 187, 3) := by decide +kernel
theorem dX14_codingStatement_4 : decode cX14_codingStatement 4 = .ok (.istore_n 1, 1) := by decide +kernel
theorem dX14_codingStatement_5 : decode cX14_codingStatement 5 = .ok (.aload_n 0, 1) := by decide +kernel
theorem dX14_codingStatement_6 : decode cX14_codingStatement 6 = .ok (.aload_n 0, 1) := by decide +kernel
theorem dX14_codingStatement_7 : decode cX14_codingStatement 7 = .ok (.getfield 13, 3) := by decide +kernel
theorem dX14_codingStatement_10 : decode cX14_codingStatement 10 = .ok (.iload_n 1, 1) := by decide +kernel
theorem dX14_codingStatement_11 : decode cX14_codingStatement 11 = .ok (.iaload, 1) := by decide +kernel
theorem dX14_codingStatement_12 : decode cX14_codingStatement 12 = .ok (.bipush 12, 2) := by decide +kernel
theorem dX14_codingStatement_14 : decode cX14_codingStatement 14 = .ok (.invokevirtual 303, 3) := by decide +kernel
theorem dX14_codingStatement_17 : decode cX14_codingStatement 17 = .ok (.ifCond .ne 4, 3) := by decide +kernel
theorem dX14_codingStatement_20 : decode cX14_codingStatement 20 = .ok (.return_, 1) := by decide +kernel
theorem dX14_codingStatement_21 : decode cX14_codingStatement 21 = .ok (.aload_n 0, 1) := by decide +kernel
theorem dX14_codingStatement_22 : decode cX14_codingStatement 22 = .ok (.getfield 13, 3) := by decide +kernel
theorem dX14_codingStatement_25 : decode cX14_codingStatement 25 = .ok (.iload_n 1, 1) := by decide +kernel
theorem dX14_codingStatement_26 : decode cX14_codingStatement 26 = .ok (.iaload, 1) := by decide +kernel
theorem dX14_codingStatement_27 : decode cX14_codingStatement 27 = .ok (.istore_n 2, 1) := by decide +kernel
theorem dX14_codingStatement_28 : decode cX14_codingStatement 28 = .ok (.aload_n 0, 1) := by decide +kernel
theorem dX14_codingStatement_29 : decode cX14_codingStatement 29 = .ok (.iconst 1, 1) := by decide +kernel
theorem dX14_codingStatement_30 : decode cX14_codingStatement 30 = .ok (.iload_n 2, 1) := by decide +kernel
theorem dX14_codingStatement_31 : decode cX14_codingStatement 31 = .ok (.iconst 0, 1) := by decide +kernel
theorem dX14_codingStatement_32 : decode cX14_codingStatement 32 = .ok (.invokevirtual 307, 3) := by decide +kernel
theorem dX14_codingStatement_35 : decode cX14_codingStatement 35 = .ok (.aload_n 0, 1) := by decide +kernel
theorem dX14_codingStatement_36 : decode cX14_codingStatement 36 = .ok (.getfield 37, 3) := by decide +kernel
theorem dX14_codingStatement_39 : decode cX14_codingStatement 39 = .ok (.bipush 12, 2) := by decide +kernel
theorem dX14_codingStatement_41 : decode cX14_codingStatement 41 = .ok (.iload_n 1, 1) := by decide +kernel
theorem dX14_codingStatement_42 : decode cX14_codingStatement 42 = .ok (.imul, 1) := by decide +kernel
theorem dX14_codingStatement_43 : decode cX14_codingStatement 43 = .ok (.iload_n 2, 1) := by decide +kernel
theorem dX14_codingStatement_44 : decode cX14_codingStatement 44 = .ok (.iadd, 1) := by decide +kernel
theorem dX14_codingStatement_45 : decode cX14_codingStatement 45 = .ok (.aload_n 0, 1) := by decide +kernel
theorem dX14_codingStatement_46 : decode cX14_codingStatement 46 = .ok (.invokevirtual 311, 3) := by decide +kernel
theorem dX14_codingStatement_49 : decode cX14_codingStatement 49 = .ok (.iastore, 1) := by decide +kernel
theorem dX14_codingStatement_50 : decode cX14_codingStatement 50 = .ok (.aload_n 0, 1) := by decide +kernel
theorem dX14_codingStatement_51 : decode cX14_codingStatement 51 = .ok (.getfield 13, 3) := by decide +kernel
theorem dX14_codingStatement_54 : decode cX14_codingStatement 54 = .ok (.iload_n 1, 1) := by decide +kernel
theorem dX14_codingStatement_55 : decode cX14_codingStatement 55 = .ok (.dup2, 1) := by decide +kernel
theorem dX14_codingStatement_56 : decode cX14_codingStatement 56 = .ok (.iaload, 1) := by decide +kernel
theorem dX14_codingStatement_57 : decode cX14_codingStatement 57 = .ok (.iconst 1, 1) := by decide +kernel
theorem dX14_codingStatement_58 : decode cX14_codingStatement 58 = .ok (.iadd, 1) := by decide +kernel
theorem dX14_codingStatement_59 : decode cX14_codingStatement 59 = .ok (.iastore, 1) := by decide +kernel
theorem dX14_codingStatement_60 : decode cX14_codingStatement 60 = .ok (.aload_n 0, 1) := by decide +kernel
theorem dX14_codingStatement_61 : decode cX14_codingStatement 61 = .ok (.bipush 61, 2) := by decide +kernel
theorem dX14_codingStatement_63 : decode cX14_codingStatement 63 = .ok (.invokevirtual 314, 3) := by decide +kernel
theorem dX14_codingStatement_66 : decode cX14_codingStatement 66 = .ok (.aload_n 0, 1) := by decide +kernel
theorem dX14_codingStatement_67 : decode cX14_codingStatement 67 = .ok (.getfield 40, 3) := by decide +kernel
theorem dX14_codingStatement_70 : decode cX14_codingStatement 70 = .ok (.bipush 12, 2) := by decide +kernel
theorem dX14_codingStatement_72 : decode cX14_codingStatement 72 = .ok (.iload_n 1, 1) := by decide +kernel
theorem dX14_codingStatement_73 : decode cX14_codingStatement 73 = .ok (.imul, 1) := by decide +kernel
theorem dX14_codingStatement_74 : decode cX14_codingStatement 74 = .ok (.iload_n 2, 1) := by decide +kernel
theorem dX14_codingStatement_75 : decode cX14_codingStatement 75 = .ok (.iadd, 1) := by decide +kernel
theorem dX14_codingStatement_76 : decode cX14_codingStatement 76 = .ok (.aload_n 0, 1) := by decide +kernel
theorem dX14_codingStatement_77 : decode cX14_codingStatement 77 = .ok (.iconst 1, 1) := by decide +kernel
theorem dX14_codingStatement_78 : decode cX14_codingStatement 78 = .ok (.iconst 4, 1) := by decide +kernel
theorem dX14_codingStatement_79 : decode cX14_codingStatement 79 = .ok (.invokevirtual 300, 3) := by decide +kernel
theorem dX14_codingStatement_82 : decode cX14_codingStatement 82 = .ok (.iastore, 1) := by decide +kernel
theorem dX14_codingStatement_83 : decode cX14_codingStatement 83 = .ok (.aload_n 0, 1) := by decide +kernel
theorem dX14_codingStatement_84 : decode cX14_codingStatement 84 = .ok (.iconst 2, 1) := by decide +kernel
theorem dX14_codingStatement_85 : decode cX14_codingStatement 85 = .ok (.invokevirtual 318, 3) := by decide +kernel
theorem dX14_codingStatement_88 : decode cX14_codingStatement 88 = .ok (.aload_n 0, 1) := by decide +kernel
theorem dX14_codingStatement_89 : decode cX14_codingStatement 89 = .ok (.getfield 43, 3) := by decide +kernel
theorem dX14_codingStatement_92 : decode cX14_codingStatement 92 = .ok (.bipush 12, 2) := by decide +kernel
theorem dX14_codingStatement_94 : decode cX14_codingStatement 94 = .ok (.iload_n 1, 1) := by decide +kernel
theorem dX14_codingStatement_95 : decode cX14_codingStatement 95 = .ok (.imul, 1) := by decide +kernel
theorem dX14_codingStatement_96 : decode cX14_codingStatement 96 = .ok (.iload_n 2, 1) := by decide +kernel
theorem dX14_codingStatement_97 : decode cX14_codingStatement 97 = .ok (.iadd, 1) := by decide +kernel
theorem dX14_codingStatement_98 : decode cX14_codingStatement 98 = .ok (.iconst 0, 1) := by decide +kernel
theorem dX14_codingStatement_99 : decode cX14_codingStatement 99 = .ok (.iastore, 1) := by decide +kernel
theorem dX14_codingStatement_100 : decode cX14_codingStatement 100 = .ok (.aload_n 0, 1) := by decide +kernel
theorem dX14_codingStatement_101 : decode cX14_codingStatement 101 = .ok (.getfield 46, 3) := by decide +kernel
theorem dX14_codingStatement_104 : decode cX14_codingStatement 104 = .ok (.bipush 12, 2) := by decide +kernel
theorem dX14_codingStatement_106 : decode cX14_codingStatement 106 = .ok (.iload_n 1, 1) := by decide +kernel
theorem dX14_codingStatement_107 : decode cX14_codingStatement 107 = .ok (.imul, 1) := by decide +kernel
theorem dX14_codingStatement_108 : decode cX14_codingStatement 108 = .ok (.iload_n 2, 1) := by decide +kernel
theorem dX14_codingStatement_109 : decode cX14_codingStatement 109 = .ok (.iadd, 1) := by decide +kernel
theorem dX14_codingStatement_110 : decode cX14_codingStatement 110 = .ok (.iconst 0, 1) := by decide +kernel
theorem dX14_codingStatement_111 : decode cX14_codingStatement 111 = .ok (.iastore, 1) := by decide +kernel
theorem dX14_codingStatement_112 : decode cX14_codingStatement 112 = .ok (.aload_n 0, 1) := by decide +kernel
theorem dX14_codingStatement_113 : decode cX14_codingStatement 113 = .ok (.getfield 49, 3) := by decide +kernel
theorem dX14_codingStatement_116 : decode cX14_codingStatement 116 = .ok (.bipush 12, 2) := by decide +kernel
theorem dX14_codingStatement_118 : decode cX14_codingStatement 118 = .ok (.iload_n 1, 1) := by decide +kernel
theorem dX14_codingStatement_119 : decode cX14_codingStatement 119 = .ok (.imul, 1) := by decide +kernel
theorem dX14_codingStatement_120 : decode cX14_codingStatement 120 = .ok (.iload_n 2, 1) := by decide +kernel
theorem dX14_codingStatement_121 : decode cX14_codingStatement 121 = .ok (.iadd, 1) := by decide +kernel
theorem dX14_codingStatement_122 : decode cX14_codingStatement 122 = .ok (.iconst 0, 1) := by decide +kernel
theorem dX14_codingStatement_123 : decode cX14_codingStatement 123 = .ok (.iastore, 1) := by decide +kernel
theorem dX14_codingStatement_124 : decode cX14_codingStatement 124 = .ok (.aload_n 0, 1) := by decide +kernel
theorem dX14_codingStatement_125 : decode cX14_codingStatement 125 = .ok (.getfield 52, 3) := by decide +kernel
theorem dX14_codingStatement_128 : decode cX14_codingStatement 128 = .ok (.bipush 12, 2) := by decide +kernel
theorem dX14_codingStatement_130 : decode cX14_codingStatement 130 = .ok (.iload_n 1, 1) := by decide +kernel
theorem dX14_codingStatement_131 : decode cX14_codingStatement 131 = .ok (.imul, 1) := by decide +kernel
theorem dX14_codingStatement_132 : decode cX14_codingStatement 132 = .ok (.iload_n 2, 1) := by decide +kernel
theorem dX14_codingStatement_133 : decode cX14_codingStatement 133 = .ok (.iadd, 1) := by decide +kernel
theorem dX14_codingStatement_134 : decode cX14_codingStatement 134 = .ok (.iconst 0, 1) := by decide +kernel
theorem dX14_codingStatement_135 : decode cX14_codingStatement 135 = .ok (.iastore, 1) := by decide +kernel
theorem dX14_codingStatement_136 : decode cX14_codingStatement 136 = .ok (.aload_n 0, 1) := by decide +kernel
theorem dX14_codingStatement_137 : decode cX14_codingStatement 137 = .ok (.getfield 55, 3) := by decide +kernel
theorem dX14_codingStatement_140 : decode cX14_codingStatement 140 = .ok (.bipush 12, 2) := by decide +kernel
theorem dX14_codingStatement_142 : decode cX14_codingStatement 142 = .ok (.iload_n 1, 1) := by decide +kernel
theorem dX14_codingStatement_143 : decode cX14_codingStatement 143 = .ok (.imul, 1) := by decide +kernel
theorem dX14_codingStatement_144 : decode cX14_codingStatement 144 = .ok (.iload_n 2, 1) := by decide +kernel
theorem dX14_codingStatement_145 : decode cX14_codingStatement 145 = .ok (.iadd, 1) := by decide +kernel
theorem dX14_codingStatement_146 : decode cX14_codingStatement 146 = .ok (.iconst 0, 1) := by decide +kernel
theorem dX14_codingStatement_147 : decode cX14_codingStatement 147 = .ok (.iastore, 1) := by decide +kernel
theorem dX14_codingStatement_148 : decode cX14_codingStatement 148 = .ok (.aload_n 0, 1) := by decide +kernel
theorem dX14_codingStatement_149 : decode cX14_codingStatement 149 = .ok (.bipush 123, 2) := by decide +kernel
theorem dX14_codingStatement_151 : decode cX14_codingStatement 151 = .ok (.invokevirtual 296, 3) := by decide +kernel
theorem dX14_codingStatement_154 : decode cX14_codingStatement 154 = .ok (.ifCond .eq 156, 3) := by decide +kernel
theorem dX14_codingStatement_157 : decode cX14_codingStatement 157 = .ok (.aload_n 0, 1) := by decide +kernel
theorem dX14_codingStatement_158 : decode cX14_codingStatement 158 = .ok (.invokevirtual 286, 3) := by decide +kernel
theorem dX14_codingStatement_161 : decode cX14_codingStatement 161 = .ok (.aload_n 0, 1) := by decide +kernel
theorem dX14_codingStatement_162 : decode cX14_codingStatement 162 = .ok (.getfield 43, 3) := by decide +kernel
theorem dX14_codingStatement_165 : decode cX14_codingStatement 165 = .ok (.bipush 12, 2) := by decide +kernel
theorem dX14_codingStatement_167 : decode cX14_codingStatement 167 = .ok (.iload_n 1, 1) := by decide +kernel
theorem dX14_codingStatement_168 : decode cX14_codingStatement 168 = .ok (.imul, 1) := by decide +kernel
theorem dX14_codingStatement_169 : decode cX14_codingStatement 169 = .ok (.iload_n 2, 1) := by decide +kernel
theorem dX14_codingStatement_170 : decode cX14_codingStatement 170 = .ok (.iadd, 1) := by decide +kernel
theorem dX14_codingStatement_171 : decode cX14_codingStatement 171 = .ok (.iconst 3, 1) := by decide +kernel
theorem dX14_codingStatement_172 : decode cX14_codingStatement 172 = .ok (.iastore, 1) := by decide +kernel
theorem dX14_codingStatement_173 : decode cX14_codingStatement 173 = .ok (.aload_n 0, 1) := by decide +kernel
theorem dX14_codingStatement_174 : decode cX14_codingStatement 174 = .ok (.getfield 282, 3) := by decide +kernel
theorem dX14_codingStatement_177 : decode cX14_codingStatement 177 = .ok (.ifCond .eq 126, 3) := by decide +kernel
theorem dX14_codingStatement_180 : decode cX14_codingStatement 180 = .ok (.aload_n 0, 1) := by decide +kernel
theorem dX14_codingStatement_181 : decode cX14_codingStatement 181 = .ok (.getfield 265, 3) := by decide +kernel
theorem dX14_codingStatement_184 : decode cX14_codingStatement 184 = .ok (.iconst 3, 1) := by decide +kernel
theorem dX14_codingStatement_185 : decode cX14_codingStatement 185 = .ok (.if_icmp .ne 118, 3) := by decide +kernel
theorem dX14_codingStatement_188 : decode cX14_codingStatement 188 = .ok (.aload_n 0, 1) := by decide +kernel
theorem dX14_codingStatement_189 : decode cX14_codingStatement 189 = .ok (.getfield 55, 3) := by decide +kernel
theorem dX14_codingStatement_192 : decode cX14_codingStatement 192 = .ok (.bipush 12, 2) := by decide +kernel
theorem dX14_codingStatement_194 : decode cX14_codingStatement 194 = .ok (.iload_n 1, 1) := by decide +kernel
theorem dX14_codingStatement_195 : decode cX14_codingStatement 195 = .ok (.imul, 1) := by decide +kernel
theorem dX14_codingStatement_196 : decode cX14_codingStatement 196 = .ok (.iload_n 2, 1) := by decide +kernel
theorem dX14_codingStatement_197 : decode cX14_codingStatement 197 = .ok (.iadd, 1) := by decide +kernel
theorem dX14_codingStatement_198 : decode cX14_codingStatement 198 = .ok (.iaload, 1) := by decide +kernel
theorem dX14_codingStatement_199 : decode cX14_codingStatement 199 = .ok (.bipush 8, 2) := by decide +kernel
theorem dX14_codingStatement_201 : decode cX14_codingStatement 201 = .ok (.if_icmp .ne 9, 3) := by decide +kernel
theorem dX14_codingStatement_204 : decode cX14_codingStatement 204 = .ok (.aload_n 0, 1) := by decide +kernel
theorem dX14_codingStatement_205 : decode cX14_codingStatement 205 = .ok (.iconst 0, 1) := by decide +kernel
theorem dX14_codingStatement_206 : decode cX14_codingStatement 206 = .ok (.putfield 282, 3) := by decide +kernel
theorem dX14_codingStatement_209 : decode cX14_codingStatement 209 = .ok (.return_, 1) := by decide +kernel
theorem dX14_codingStatement_210 : decode cX14_codingStatement 210 = .ok (.bipush 8, 2) := by decide +kernel
theorem dX14_codingStatement_212 : decode cX14_codingStatement 212 = .ok (.iload_n 2, 1) := by decide +kernel
theorem dX14_codingStatement_213 : decode cX14_codingStatement 213 = .ok (.imul, 1) := by decide +kernel
theorem dX14_codingStatement_214 : decode cX14_codingStatement 214 = .ok (.aload_n 0, 1) := by decide +kernel
theorem dX14_codingStatement_215 : decode cX14_codingStatement 215 = .ok (.getfield 55, 3) := by decide +kernel
theorem dX14_codingStatement_218 : decode cX14_codingStatement 218 = .ok (.bipush 12, 2) := by decide +kernel
theorem dX14_codingStatement_220 : decode cX14_codingStatement 220 = .ok (.iload_n 1, 1) := by decide +kernel
theorem dX14_codingStatement_221 : decode cX14_codingStatement 221 = .ok (.imul, 1) := by decide +kernel
theorem dX14_codingStatement_222 : decode cX14_codingStatement 222 = .ok (.iload_n 2, 1) := by decide +kernel
theorem dX14_codingStatement_223 : decode cX14_codingStatement 223 = .ok (.iadd, 1) := by decide +kernel
theorem dX14_codingStatement_224 : decode cX14_codingStatement 224 = .ok (.iaload, 1) := by decide +kernel
theorem dX14_codingStatement_225 : decode cX14_codingStatement 225 = .ok (.iadd, 1) := by decide +kernel
theorem dX14_codingStatement_226 : decode cX14_codingStatement 226 = .ok (.istore_n 3, 1) := by decide +kernel
theorem dX14_codingStatement_227 : decode cX14_codingStatement 227 = .ok (.aload_n 0, 1) := by decide +kernel
theorem dX14_codingStatement_228 : decode cX14_codingStatement 228 = .ok (.bipush 6, 2) := by decide +kernel
theorem dX14_codingStatement_230 : decode cX14_codingStatement 230 = .ok (.iload_n 2, 1) := by decide +kernel
theorem dX14_codingStatement_231 : decode cX14_codingStatement 231 = .ok (.aload_n 0, 1) := by decide +kernel
theorem dX14_codingStatement_232 : decode cX14_codingStatement 232 = .ok (.getfield 55, 3) := by decide +kernel
theorem dX14_codingStatement_235 : decode cX14_codingStatement 235 = .ok (.bipush 12, 2) := by decide +kernel
theorem dX14_codingStatement_237 : decode cX14_codingStatement 237 = .ok (.iload_n 1, 1) := by decide +kernel
theorem dX14_codingStatement_238 : decode cX14_codingStatement 238 = .ok (.imul, 1) := by decide +kernel
theorem dX14_codingStatement_239 : decode cX14_codingStatement 239 = .ok (.iload_n 2, 1) := by decide +kernel
theorem dX14_codingStatement_240 : decode cX14_codingStatement 240 = .ok (.iadd, 1) := by decide +kernel
theorem dX14_codingStatement_241 : decode cX14_codingStatement 241 = .ok (.iaload, 1) := by decide +kernel
theorem dX14_codingStatement_242 : decode cX14_codingStatement 242 = .ok (.invokevirtual 307, 3) := by decide +kernel
theorem dX14_codingStatement_245 : decode cX14_codingStatement 245 = .ok (.aload_n 0, 1) := by decide +kernel
theorem dX14_codingStatement_246 : decode cX14_codingStatement 246 = .ok (.getfield 58, 3) := by decide +kernel
theorem dX14_codingStatement_249 : decode cX14_codingStatement 249 = .ok (.bipush 96, 2) := by decide +kernel
theorem dX14_codingStatement_251 : decode cX14_codingStatement 251 = .ok (.iload_n 1, 1) := by decide +kernel
theorem dX14_codingStatement_252 : decode cX14_codingStatement 252 = .ok (.imul, 1) := by decide +kernel
theorem dX14_codingStatement_253 : decode cX14_codingStatement 253 = .ok (.iload_n 3, 1) := by decide +kernel
theorem dX14_codingStatement_254 : decode cX14_codingStatement 254 = .ok (.iadd, 1) := by decide +kernel
theorem dX14_codingStatement_255 : decode cX14_codingStatement 255 = .ok (.aload_n 0, 1) := by decide +kernel
theorem dX14_codingStatement_256 : decode cX14_codingStatement 256 = .ok (.iconst 0, 1) := by decide +kernel
theorem dX14_codingStatement_257 : decode cX14_codingStatement 257 = .ok (.ldc_w 299, 3) := by decide +kernel
theorem dX14_codingStatement_260 : decode cX14_codingStatement 260 = .ok (.invokevirtual 300, 3) := by decide +kernel
theorem dX14_codingStatement_263 : decode cX14_codingStatement 263 = .ok (.iastore, 1) := by decide +kernel
theorem dX14_codingStatement_264 : decode cX14_codingStatement 264 = .ok (.aload_n 0, 1) := by decide +kernel
theorem dX14_codingStatement_265 : decode cX14_codingStatement 265 = .ok (.getfield 61, 3) := by decide +kernel
theorem dX14_codingStatement_268 : decode cX14_codingStatement 268 = .ok (.bipush 96, 2) := by decide +kernel
theorem dX14_codingStatement_270 : decode cX14_codingStatement 270 = .ok (.iload_n 1, 1) := by decide +kernel
theorem dX14_codingStatement_271 : decode cX14_codingStatement 271 = .ok (.imul, 1) := by decide +kernel
theorem dX14_codingStatement_272 : decode cX14_codingStatement 272 = .ok (.iload_n 3, 1) := by decide +kernel
theorem dX14_codingStatement_273 : decode cX14_codingStatement 273 = .ok (.iadd, 1) := by decide +kernel
theorem dX14_codingStatement_274 : decode cX14_codingStatement 274 = .ok (.aload_n 0, 1) := by decide +kernel
theorem dX14_codingStatement_275 : decode cX14_codingStatement 275 = .ok (.invokevirtual 311, 3) := by decide +kernel
theorem dX14_codingStatement_278 : decode cX14_codingStatement 278 = .ok (.iastore, 1) := by decide +kernel
theorem dX14_codingStatement_279 : decode cX14_codingStatement 279 = .ok (.aload_n 0, 1) := by decide +kernel
theorem dX14_codingStatement_280 : decode cX14_codingStatement 280 = .ok (.getfield 55, 3) := by decide +kernel
theorem dX14_codingStatement_283 : decode cX14_codingStatement 283 = .ok (.bipush 12, 2) := by decide +kernel
theorem dX14_codingStatement_285 : decode cX14_codingStatement 285 = .ok (.iload_n 1, 1) := by decide +kernel
theorem dX14_codingStatement_286 : decode cX14_codingStatement 286 = .ok (.imul, 1) := by decide +kernel
theorem dX14_codingStatement_287 : decode cX14_codingStatement 287 = .ok (.iload_n 2, 1) := by decide +kernel
theorem dX14_codingStatement_288 : decode cX14_codingStatement 288 = .ok (.iadd, 1) := by decide +kernel
theorem dX14_codingStatement_289 : decode cX14_codingStatement 289 = .ok (.dup2, 1) := by decide +kernel
theorem dX14_codingStatement_290 : decode cX14_codingStatement 290 = .ok (.iaload, 1) := by decide +kernel
theorem dX14_codingStatement_291 : decode cX14_codingStatement 291 = .ok (.iconst 1, 1) := by decide +kernel
theorem dX14_codingStatement_292 : decode cX14_codingStatement 292 = .ok (.iadd, 1) := by decide +kernel
theorem dX14_codingStatement_293 : decode cX14_codingStatement 293 = .ok (.iastore, 1) := by decide +kernel
theorem dX14_codingStatement_294 : decode cX14_codingStatement 294 = .ok (.aload_n 0, 1) := by decide +kernel
theorem dX14_codingStatement_295 : decode cX14_codingStatement 295 = .ok (.bipush 59, 2) := by decide +kernel
theorem dX14_codingStatement_297 : decode cX14_codingStatement 297 = .ok (.invokevirtual 314, 3) := by decide +kernel
theorem dX14_codingStatement_300 : decode cX14_codingStatement 300 = .ok (.goto (-127), 3) := by decide +kernel
theorem dX14_codingStatement_303 : decode cX14_codingStatement 303 = .ok (.aload_n 0, 1) := by decide +kernel
theorem dX14_codingStatement_304 : decode cX14_codingStatement 304 = .ok (.bipush 125, 2) := by decide +kernel
theorem dX14_codingStatement_306 : decode cX14_codingStatement 306 = .ok (.invokevirtual 314, 3) := by decide +kernel
theorem dX14_codingStatement_309 : decode cX14_codingStatement 309 = .ok (.return_, 1) := by decide +kernel
theorem dX14_codingStatement_310 : decode cX14_codingStatement 310 = .ok (.aload_n 0, 1) := by decide +kernel
theorem dX14_codingStatement_311 : decode cX14_codingStatement 311 = .ok (.iconst 3, 1) := by decide +kernel
theorem dX14_codingStatement_312 : decode cX14_codingStatement 312 = .ok (.invokevirtual 321, 3) := by decide +kernel
theorem dX14_codingStatement_315 : decode cX14_codingStatement 315 = .ok (.ifCond .eq 22, 3) := by decide +kernel
theorem dX14_codingStatement_318 : decode cX14_codingStatement 318 = .ok (.aload_n 0, 1) := by decide +kernel
theorem dX14_codingStatement_319 : decode cX14_codingStatement 319 = .ok (.invokevirtual 286, 3) := by decide +kernel
theorem dX14_codingStatement_322 : decode cX14_codingStatement 322 = .ok (.aload_n 0, 1) := by decide +kernel
theorem dX14_codingStatement_323 : decode cX14_codingStatement 323 = .ok (.getfield 43, 3) := by decide +kernel
theorem dX14_codingStatement_326 : decode cX14_codingStatement 326 = .ok (.bipush 12, 2) := by decide +kernel
theorem dX14_codingStatement_328 : decode cX14_codingStatement 328 = .ok (.iload_n 1, 1) := by decide +kernel
theorem dX14_codingStatement_329 : decode cX14_codingStatement 329 = .ok (.imul, 1) := by decide +kernel
theorem dX14_codingStatement_330 : decode cX14_codingStatement 330 = .ok (.iload_n 2, 1) := by decide +kernel
theorem dX14_codingStatement_331 : decode cX14_codingStatement 331 = .ok (.iadd, 1) := by decide +kernel
theorem dX14_codingStatement_332 : decode cX14_codingStatement 332 = .ok (.iconst 1, 1) := by decide +kernel
theorem dX14_codingStatement_333 : decode cX14_codingStatement 333 = .ok (.iastore, 1) := by decide +kernel
theorem dX14_codingStatement_334 : decode cX14_codingStatement 334 = .ok (.goto 87, 3) := by decide +kernel
theorem dX14_codingStatement_337 : decode cX14_codingStatement 337 = .ok (.aload_n 0, 1) := by decide +kernel
theorem dX14_codingStatement_338 : decode cX14_codingStatement 338 = .ok (.iconst 4, 1) := by decide +kernel
theorem dX14_codingStatement_339 : decode cX14_codingStatement 339 = .ok (.invokevirtual 321, 3) := by decide +kernel
theorem dX14_codingStatement_342 : decode cX14_codingStatement 342 = .ok (.ifCond .eq 79, 3) := by decide +kernel
theorem dX14_codingStatement_345 : decode cX14_codingStatement 345 = .ok (.aload_n 0, 1) := by decide +kernel
theorem dX14_codingStatement_346 : decode cX14_codingStatement 346 = .ok (.invokevirtual 286, 3) := by decide +kernel
theorem dX14_codingStatement_349 : decode cX14_codingStatement 349 = .ok (.aload_n 0, 1) := by decide +kernel
theorem dX14_codingStatement_350 : decode cX14_codingStatement 350 = .ok (.getfield 43, 3) := by decide +kernel
theorem dX14_codingStatement_353 : decode cX14_codingStatement 353 = .ok (.bipush 12, 2) := by decide +kernel
theorem dX14_codingStatement_355 : decode cX14_codingStatement 355 = .ok (.iload_n 1, 1) := by decide +kernel
theorem dX14_codingStatement_356 : decode cX14_codingStatement 356 = .ok (.imul, 1) := by decide +kernel
theorem dX14_codingStatement_357 : decode cX14_codingStatement 357 = .ok (.iload_n 2, 1) := by decide +kernel
theorem dX14_codingStatement_358 : decode cX14_codingStatement 358 = .ok (.iadd, 1) := by decide +kernel
theorem dX14_codingStatement_359 : decode cX14_codingStatement 359 = .ok (.iconst 2, 1) := by decide +kernel
theorem dX14_codingStatement_360 : decode cX14_codingStatement 360 = .ok (.iastore, 1) := by decide +kernel
theorem dX14_codingStatement_361 : decode cX14_codingStatement 361 = .ok (.aload_n 0, 1) := by decide +kernel
theorem dX14_codingStatement_362 : decode cX14_codingStatement 362 = .ok (.getfield 46, 3) := by decide +kernel
theorem dX14_codingStatement_365 : decode cX14_codingStatement 365 = .ok (.bipush 12, 2) := by decide +kernel
theorem dX14_codingStatement_367 : decode cX14_codingStatement 367 = .ok (.iload_n 1, 1) := by decide +kernel
theorem dX14_codingStatement_368 : decode cX14_codingStatement 368 = .ok (.imul, 1) := by decide +kernel
theorem dX14_codingStatement_369 : decode cX14_codingStatement 369 = .ok (.iload_n 2, 1) := by decide +kernel
theorem dX14_codingStatement_370 : decode cX14_codingStatement 370 = .ok (.iadd, 1) := by decide +kernel
theorem dX14_codingStatement_371 : decode cX14_codingStatement 371 = .ok (.aload_n 0, 1) := by decide +kernel
theorem dX14_codingStatement_372 : decode cX14_codingStatement 372 = .ok (.invokevirtual 324, 3) := by decide +kernel
theorem dX14_codingStatement_375 : decode cX14_codingStatement 375 = .ok (.iastore, 1) := by decide +kernel
theorem dX14_codingStatement_376 : decode cX14_codingStatement 376 = .ok (.aload_n 0, 1) := by decide +kernel
theorem dX14_codingStatement_377 : decode cX14_codingStatement 377 = .ok (.bipush 47, 2) := by decide +kernel
theorem dX14_codingStatement_379 : decode cX14_codingStatement 379 = .ok (.invokevirtual 314, 3) := by decide +kernel
theorem dX14_codingStatement_382 : decode cX14_codingStatement 382 = .ok (.aload_n 0, 1) := by decide +kernel
theorem dX14_codingStatement_383 : decode cX14_codingStatement 383 = .ok (.getfield 49, 3) := by decide +kernel
theorem dX14_codingStatement_386 : decode cX14_codingStatement 386 = .ok (.bipush 12, 2) := by decide +kernel
theorem dX14_codingStatement_388 : decode cX14_codingStatement 388 = .ok (.iload_n 1, 1) := by decide +kernel
theorem dX14_codingStatement_389 : decode cX14_codingStatement 389 = .ok (.imul, 1) := by decide +kernel
theorem dX14_codingStatement_390 : decode cX14_codingStatement 390 = .ok (.iload_n 2, 1) := by decide +kernel
theorem dX14_codingStatement_391 : decode cX14_codingStatement 391 = .ok (.iadd, 1) := by decide +kernel
theorem dX14_codingStatement_392 : decode cX14_codingStatement 392 = .ok (.aload_n 0, 1) := by decide +kernel
theorem dX14_codingStatement_393 : decode cX14_codingStatement 393 = .ok (.iconst 1, 1) := by decide +kernel
theorem dX14_codingStatement_394 : decode cX14_codingStatement 394 = .ok (.ldc_w 299, 3) := by decide +kernel
theorem dX14_codingStatement_397 : decode cX14_codingStatement 397 = .ok (.invokevirtual 300, 3) := by decide +kernel
theorem dX14_codingStatement_400 : decode cX14_codingStatement 400 = .ok (.iastore, 1) := by decide +kernel
theorem dX14_codingStatement_401 : decode cX14_codingStatement 401 = .ok (.aload_n 0, 1) := by decide +kernel
theorem dX14_codingStatement_402 : decode cX14_codingStatement 402 = .ok (.iconst 5, 1) := by decide +kernel
theorem dX14_codingStatement_403 : decode cX14_codingStatement 403 = .ok (.invokevirtual 318, 3) := by decide +kernel
theorem dX14_codingStatement_406 : decode cX14_codingStatement 406 = .ok (.aload_n 0, 1) := by decide +kernel
theorem dX14_codingStatement_407 : decode cX14_codingStatement 407 = .ok (.getfield 52, 3) := by decide +kernel
theorem dX14_codingStatement_410 : decode cX14_codingStatement 410 = .ok (.bipush 12, 2) := by decide +kernel
theorem dX14_codingStatement_412 : decode cX14_codingStatement 412 = .ok (.iload_n 1, 1) := by decide +kernel
theorem dX14_codingStatement_413 : decode cX14_codingStatement 413 = .ok (.imul, 1) := by decide +kernel
theorem dX14_codingStatement_414 : decode cX14_codingStatement 414 = .ok (.iload_n 2, 1) := by decide +kernel
theorem dX14_codingStatement_415 : decode cX14_codingStatement 415 = .ok (.iadd, 1) := by decide +kernel
theorem dX14_codingStatement_416 : decode cX14_codingStatement 416 = .ok (.aload_n 0, 1) := by decide +kernel
theorem dX14_codingStatement_417 : decode cX14_codingStatement 417 = .ok (.invokevirtual 324, 3) := by decide +kernel
theorem dX14_codingStatement_420 : decode cX14_codingStatement 420 = .ok (.iastore, 1) := by decide +kernel
theorem dX14_codingStatement_421 : decode cX14_codingStatement 421 = .ok (.aload_n 0, 1) := by decide +kernel
theorem dX14_codingStatement_422 : decode cX14_codingStatement 422 = .ok (.bipush 59, 2) := by decide +kernel
theorem dX14_codingStatement_424 : decode cX14_codingStatement 424 = .ok (.invokevirtual 314, 3) := by decide +kernel
theorem dX14_codingStatement_427 : decode cX14_codingStatement 427 = .ok (.return_, 1) := by decide +kernel
theorem dX14_layerStatement_0 : decode cX14_layerStatement 0 = .ok (.aload_n 0, 1) := by decide +kernel
theorem dX14_layerStatement_1 : decode cX14_layerStatement 1 = .ok (.getfield 187, 3) := by decide +kernel
theorem dX14_layerStatement_4 : decode cX14_layerStatement 4 = .ok (.istore_n 1, 1) := by decide +kernel
theorem dX14_layerStatement_5 : decode cX14_layerStatement 5 = .ok (.aload_n 0, 1) := by decide +kernel
theorem dX14_layerStatement_6 : decode cX14_layerStatement 6 = .ok (.aload_n 0, 1) := by decide +kernel
theorem dX14_layerStatement_7 : decode cX14_layerStatement 7 = .ok (.getfield 16, 3) := by decide +kernel
theorem dX14_layerStatement_10 : decode cX14_layerStatement 10 = .ok (.iload_n 1, 1) := by decide +kernel
theorem dX14_layerStatement_11 : decode cX14_layerStatement 11 = .ok (.iaload, 1) := by decide +kernel
theorem dX14_layerStatement_12 : decode cX14_layerStatement 12 = .ok (.bipush 6, 2) := by decide +kernel
theorem dX14_layerStatement_14 : decode cX14_layerStatement 14 = .ok (.invokevirtual 303, 3) := by decide +kernel
theorem dX14_layerStatement_17 : decode cX14_layerStatement 17 = .ok (.ifCond .ne 4, 3) := by decide +kernel
theorem dX14_layerStatement_20 : decode cX14_layerStatement 20 = .ok (.return_, 1) := by decide +kernel
theorem dX14_layerStatement_21 : decode cX14_layerStatement 21 = .ok (.aload_n 0, 1) := by decide +kernel
theorem dX14_layerStatement_22 : decode cX14_layerStatement 22 = .ok (.getfield 16, 3) := by decide +kernel
theorem dX14_layerStatement_25 : decode cX14_layerStatement 25 = .ok (.iload_n 1, 1) := by decide +kernel
theorem dX14_layerStatement_26 : decode cX14_layerStatement 26 = .ok (.iaload, 1) := by decide +kernel
theorem dX14_layerStatement_27 : decode cX14_layerStatement 27 = .ok (.istore_n 2, 1) := by decide +kernel
theorem dX14_layerStatement_28 : decode cX14_layerStatement 28 = .ok (.aload_n 0, 1) := by decide +kernel
theorem dX14_layerStatement_29 : decode cX14_layerStatement 29 = .ok (.iconst 2, 1) := by decide +kernel
theorem dX14_layerStatement_30 : decode cX14_layerStatement 30 = .ok (.iload_n 2, 1) := by decide +kernel
theorem dX14_layerStatement_31 : decode cX14_layerStatement 31 = .ok (.iconst 0, 1) := by decide +kernel
theorem dX14_layerStatement_32 : decode cX14_layerStatement 32 = .ok (.invokevirtual 307, 3) := by decide +kernel
theorem dX14_layerStatement_35 : decode cX14_layerStatement 35 = .ok (.aload_n 0, 1) := by decide +kernel
theorem dX14_layerStatement_36 : decode cX14_layerStatement 36 = .ok (.getfield 64, 3) := by decide +kernel
theorem dX14_layerStatement_39 : decode cX14_layerStatement 39 = .ok (.bipush 6, 2) := by decide +kernel
theorem dX14_layerStatement_41 : decode cX14_layerStatement 41 = .ok (.iload_n 1, 1) := by decide +kernel
theorem dX14_layerStatement_42 : decode cX14_layerStatement 42 = .ok (.imul, 1) := by decide +kernel
theorem dX14_layerStatement_43 : decode cX14_layerStatement 43 = .ok (.iload_n 2, 1) := by decide +kernel
theorem dX14_layerStatement_44 : decode cX14_layerStatement 44 = .ok (.iadd, 1) := by decide +kernel
theorem dX14_layerStatement_45 : decode cX14_layerStatement 45 = .ok (.aload_n 0, 1) := by decide +kernel
theorem dX14_layerStatement_46 : decode cX14_layerStatement 46 = .ok (.invokevirtual 311, 3) := by decide +kernel
theorem dX14_layerStatement_49 : decode cX14_layerStatement 49 = .ok (.iastore, 1) := by decide +kernel
theorem dX14_layerStatement_50 : decode cX14_layerStatement 50 = .ok (.aload_n 0, 1) := by decide +kernel
theorem dX14_layerStatement_51 : decode cX14_layerStatement 51 = .ok (.getfield 67, 3) := by decide +kernel
theorem dX14_layerStatement_54 : decode cX14_layerStatement 54 = .ok (.bipush 6, 2) := by decide +kernel
theorem dX14_layerStatement_56 : decode cX14_layerStatement 56 = .ok (.iload_n 1, 1) := by decide +kernel
theorem dX14_layerStatement_57 : decode cX14_layerStatement 57 = .ok (.imul, 1) := by decide +kernel
theorem dX14_layerStatement_58 : decode cX14_layerStatement 58 = .ok (.iload_n 2, 1) := by decide +kernel
theorem dX14_layerStatement_59 : decode cX14_layerStatement 59 = .ok (.iadd, 1) := by decide +kernel
theorem dX14_layerStatement_60 : decode cX14_layerStatement 60 = .ok (.iconst 0, 1) := by decide +kernel
theorem dX14_layerStatement_61 : decode cX14_layerStatement 61 = .ok (.iastore, 1) := by decide +kernel
theorem dX14_layerStatement_62 : decode cX14_layerStatement 62 = .ok (.aload_n 0, 1) := by decide +kernel
theorem dX14_layerStatement_63 : decode cX14_layerStatement 63 = .ok (.getfield 16, 3) := by decide +kernel
theorem dX14_layerStatement_66 : decode cX14_layerStatement 66 = .ok (.iload_n 1, 1) := by decide +kernel
theorem dX14_layerStatement_67 : decode cX14_layerStatement 67 = .ok (.dup2, 1) := by decide +kernel
theorem dX14_layerStatement_68 : decode cX14_layerStatement 68 = .ok (.iaload, 1) := by decide +kernel
theorem dX14_layerStatement_69 : decode cX14_layerStatement 69 = .ok (.iconst 1, 1) := by decide +kernel
theorem dX14_layerStatement_70 : decode cX14_layerStatement 70 = .ok (.iadd, 1) := by decide +kernel
theorem dX14_layerStatement_71 : decode cX14_layerStatement 71 = .ok (.iastore, 1) := by decide +kernel
theorem dX14_layerStatement_72 : decode cX14_layerStatement 72 = .ok (.aload_n 0, 1) := by decide +kernel
theorem dX14_layerStatement_73 : decode cX14_layerStatement 73 = .ok (.bipush 7, 2) := by decide +kernel
theorem dX14_layerStatement_75 : decode cX14_layerStatement 75 = .ok (.invokevirtual 321, 3) := by decide +kernel
theorem dX14_layerStatement_78 : decode cX14_layerStatement 78 = .ok (.ifCond .eq 30, 3) := by decide +kernel
theorem dX14_layerStatement_81 : decode cX14_layerStatement 81 = .ok (.aload_n 0, 1) := by decide +kernel
theorem dX14_layerStatement_82 : decode cX14_layerStatement 82 = .ok (.invokevirtual 286, 3) := by decide +kernel
theorem dX14_layerStatement_85 : decode cX14_layerStatement 85 = .ok (.aload_n 0, 1) := by decide +kernel
theorem dX14_layerStatement_86 : decode cX14_layerStatement 86 = .ok (.bipush 9, 2) := by decide +kernel
theorem dX14_layerStatement_88 : decode cX14_layerStatement 88 = .ok (.iload_n 2, 1) := by decide +kernel
theorem dX14_layerStatement_89 : decode cX14_layerStatement 89 = .ok (.iconst 0, 1) := by decide +kernel
theorem dX14_layerStatement_90 : decode cX14_layerStatement 90 = .ok (.invokevirtual 307, 3) := by decide +kernel
theorem dX14_layerStatement_93 : decode cX14_layerStatement 93 = .ok (.aload_n 0, 1) := by decide +kernel
theorem dX14_layerStatement_94 : decode cX14_layerStatement 94 = .ok (.getfield 67, 3) := by decide +kernel
theorem dX14_layerStatement_97 : decode cX14_layerStatement 97 = .ok (.bipush 6, 2) := by decide +kernel
theorem dX14_layerStatement_99 : decode cX14_layerStatement 99 = .ok (.iload_n 1, 1) := by decide +kernel
theorem dX14_layerStatement_100 : decode cX14_layerStatement 100 = .ok (.imul, 1) := by decide +kernel
theorem dX14_layerStatement_101 : decode cX14_layerStatement 101 = .ok (.iload_n 2, 1) := by decide +kernel
theorem dX14_layerStatement_102 : decode cX14_layerStatement 102 = .ok (.iadd, 1) := by decide +kernel
theorem dX14_layerStatement_103 : decode cX14_layerStatement 103 = .ok (.aload_n 0, 1) := by decide +kernel
theorem dX14_layerStatement_104 : decode cX14_layerStatement 104 = .ok (.invokevirtual 311, 3) := by decide +kernel
theorem dX14_layerStatement_107 : decode cX14_layerStatement 107 = .ok (.iastore, 1) := by decide +kernel
theorem dX14_layerStatement_108 : decode cX14_layerStatement 108 = .ok (.aload_n 0, 1) := by decide +kernel
theorem dX14_layerStatement_109 : decode cX14_layerStatement 109 = .ok (.bipush 123, 2) := by decide +kernel
theorem dX14_layerStatement_111 : decode cX14_layerStatement 111 = .ok (.invokevirtual 314, 3) := by decide +kernel
theorem dX14_layerStatement_114 : decode cX14_layerStatement 114 = .ok (.aload_n 0, 1) := by decide +kernel
theorem dX14_layerStatement_115 : decode cX14_layerStatement 115 = .ok (.bipush 8, 2) := by decide +kernel
theorem dX14_layerStatement_117 : decode cX14_layerStatement 117 = .ok (.invokevirtual 321, 3) := by decide +kernel
theorem dX14_layerStatement_120 : decode cX14_layerStatement 120 = .ok (.ifCond .eq 11, 3) := by decide +kernel
theorem dX14_layerStatement_123 : decode cX14_layerStatement 123 = .ok (.aload_n 0, 1) := by decide +kernel
theorem dX14_layerStatement_124 : decode cX14_layerStatement 124 = .ok (.iload_n 2, 1) := by decide +kernel
theorem dX14_layerStatement_125 : decode cX14_layerStatement 125 = .ok (.invokevirtual 327, 3) := by decide +kernel
theorem dX14_layerStatement_128 : decode cX14_layerStatement 128 = .ok (.goto (-14), 3) := by decide +kernel
theorem dX14_layerStatement_131 : decode cX14_layerStatement 131 = .ok (.aload_n 0, 1) := by decide +kernel
theorem dX14_layerStatement_132 : decode cX14_layerStatement 132 = .ok (.bipush 125, 2) := by decide +kernel
theorem dX14_layerStatement_134 : decode cX14_layerStatement 134 = .ok (.invokevirtual 314, 3) := by decide +kernel
theorem dX14_layerStatement_137 : decode cX14_layerStatement 137 = .ok (.return_, 1) := by decide +kernel
theorem dX14_serviceStatement_0 : decode cX14_serviceStatement 0 = .ok (.aload_n 0, 1) := by decide +kernel
theorem dX14_serviceStatement_1 : decode cX14_serviceStatement 1 = .ok (.getfield 187, 3) := by decide +kernel
theorem dX14_serviceStatement_4 : decode cX14_serviceStatement 4 = .ok (.istore_n 2, 1) := by decide +kernel
theorem dX14_serviceStatement_5 : decode cX14_serviceStatement 5 = .ok (.aload_n 0, 1) := by decide +kernel
theorem dX14_serviceStatement_6 : decode cX14_serviceStatement 6 = .ok (.aload_n 0, 1) := by decide +kernel
theorem dX14_serviceStatement_7 : decode cX14_serviceStatement 7 = .ok (.getfield 19, 3) := by decide +kernel
theorem dX14_serviceStatement_10 : decode cX14_serviceStatement 10 = .ok (.iload_n 2, 1) := by decide +kernel
theorem dX14_serviceStatement_11 : decode cX14_serviceStatement 11 = .ok (.iaload, 1) := by decide +kernel
theorem dX14_serviceStatement_12 : decode cX14_serviceStatement 12 = .ok (.bipush 16, 2) := by decide +kernel
theorem dX14_serviceStatement_14 : decode cX14_serviceStatement 14 = .ok (.invokevirtual 303, 3) := by decide +kernel
theorem dX14_serviceStatement_17 : decode cX14_serviceStatement 17 = .ok (.ifCond .ne 4, 3) := by decide +kernel
theorem dX14_serviceStatement_20 : decode cX14_serviceStatement 20 = .ok (.return_, 1) := by decide +kernel
theorem dX14_serviceStatement_21 : decode cX14_serviceStatement 21 = .ok (.aload_n 0, 1) := by decide +kernel
theorem dX14_serviceStatement_22 : decode cX14_serviceStatement 22 = .ok (.getfield 19, 3) := by decide +kernel
theorem dX14_serviceStatement_25 : decode cX14_serviceStatement 25 = .ok (.iload_n 2, 1) := by decide +kernel
theorem dX14_serviceStatement_26 : decode cX14_serviceStatement 26 = .ok (.iaload, 1) := by decide +kernel
theorem dX14_serviceStatement_27 : decode cX14_serviceStatement 27 = .ok (.istore_n 3, 1) := by decide +kernel
theorem dX14_serviceStatement_28 : decode cX14_serviceStatement 28 = .ok (.aload_n 0, 1) := by decide +kernel
theorem dX14_serviceStatement_29 : decode cX14_serviceStatement 29 = .ok (.iconst 4, 1) := by decide +kernel
theorem dX14_serviceStatement_30 : decode cX14_serviceStatement 30 = .ok (.iload_n 3, 1) := by decide +kernel
theorem dX14_serviceStatement_31 : decode cX14_serviceStatement 31 = .ok (.iconst 0, 1) := by decide +kernel
theorem dX14_serviceStatement_32 : decode cX14_serviceStatement 32 = .ok (.invokevirtual 307, 3) := by decide +kernel
theorem dX14_serviceStatement_35 : decode cX14_serviceStatement 35 = .ok (.aload_n 0, 1) := by decide +kernel
theorem dX14_serviceStatement_36 : decode cX14_serviceStatement 36 = .ok (.getfield 70, 3) := by decide +kernel
theorem dX14_serviceStatement_39 : decode cX14_serviceStatement 39 = .ok (.bipush 16, 2) := by decide +kernel
theorem dX14_serviceStatement_41 : decode cX14_serviceStatement 41 = .ok (.iload_n 2, 1) := by decide +kernel
theorem dX14_serviceStatement_42 : decode cX14_serviceStatement 42 = .ok (.imul, 1) := by decide +kernel
theorem dX14_serviceStatement_43 : decode cX14_serviceStatement 43 = .ok (.iload_n 3, 1) := by decide +kernel
theorem dX14_serviceStatement_44 : decode cX14_serviceStatement 44 = .ok (.iadd, 1) := by decide +kernel
theorem dX14_serviceStatement_45 : decode cX14_serviceStatement 45 = .ok (.aload_n 0, 1) := by decide +kernel
theorem dX14_serviceStatement_46 : decode cX14_serviceStatement 46 = .ok (.invokevirtual 311, 3) := by decide +kernel
theorem dX14_serviceStatement_49 : decode cX14_serviceStatement 49 = .ok (.iastore, 1) := by decide +kernel
theorem dX14_serviceStatement_50 : decode cX14_serviceStatement 50 = .ok (.aload_n 0, 1) := by decide +kernel
theorem dX14_serviceStatement_51 : decode cX14_serviceStatement 51 = .ok (.getfield 76, 3) := by decide +kernel
theorem dX14_serviceStatement_54 : decode cX14_serviceStatement 54 = .ok (.bipush 16, 2) := by decide +kernel
theorem dX14_serviceStatement_56 : decode cX14_serviceStatement 56 = .ok (.iload_n 2, 1) := by decide +kernel
theorem dX14_serviceStatement_57 : decode cX14_serviceStatement 57 = .ok (.imul, 1) := by decide +kernel
theorem dX14_serviceStatement_58 : decode cX14_serviceStatement 58 = .ok (.iload_n 3, 1) := by decide +kernel
theorem dX14_serviceStatement_59 : decode cX14_serviceStatement 59 = .ok (.iadd, 1) := by decide +kernel
theorem dX14_serviceStatement_60 : decode cX14_serviceStatement 60 = .ok (.iload_n 1, 1) := by decide +kernel
theorem dX14_serviceStatement_61 : decode cX14_serviceStatement 61 = .ok (.iastore, 1) := by decide +kernel
theorem dX14_serviceStatement_62 : decode cX14_serviceStatement 62 = .ok (.aload_n 0, 1) := by decide +kernel
theorem dX14_serviceStatement_63 : decode cX14_serviceStatement 63 = .ok (.getfield 79, 3) := by decide +kernel
theorem dX14_serviceStatement_66 : decode cX14_serviceStatement 66 = .ok (.bipush 16, 2) := by decide +kernel
theorem dX14_serviceStatement_68 : decode cX14_serviceStatement 68 = .ok (.iload_n 2, 1) := by decide +kernel
theorem dX14_serviceStatement_69 : decode cX14_serviceStatement 69 = .ok (.imul, 1) := by decide +kernel
theorem dX14_serviceStatement_70 : decode cX14_serviceStatement 70 = .ok (.iload_n 3, 1) := by decide +kernel
theorem dX14_serviceStatement_71 : decode cX14_serviceStatement 71 = .ok (.iadd, 1) := by decide +kernel
theorem dX14_serviceStatement_72 : decode cX14_serviceStatement 72 = .ok (.iconst 0, 1) := by decide +kernel
theorem dX14_serviceStatement_73 : decode cX14_serviceStatement 73 = .ok (.iastore, 1) := by decide +kernel
theorem dX14_serviceStatement_74 : decode cX14_serviceStatement 74 = .ok (.aload_n 0, 1) := by decide +kernel
theorem dX14_serviceStatement_75 : decode cX14_serviceStatement 75 = .ok (.getfield 19, 3) := by decide +kernel
theorem dX14_serviceStatement_78 : decode cX14_serviceStatement 78 = .ok (.iload_n 2, 1) := by decide +kernel
theorem dX14_serviceStatement_79 : decode cX14_serviceStatement 79 = .ok (.dup2, 1) := by decide +kernel
theorem dX14_serviceStatement_80 : decode cX14_serviceStatement 80 = .ok (.iaload, 1) := by decide +kernel
theorem dX14_serviceStatement_81 : decode cX14_serviceStatement 81 = .ok (.iconst 1, 1) := by decide +kernel
theorem dX14_serviceStatement_82 : decode cX14_serviceStatement 82 = .ok (.iadd, 1) := by decide +kernel
theorem dX14_serviceStatement_83 : decode cX14_serviceStatement 83 = .ok (.iastore, 1) := by decide +kernel
theorem dX14_serviceStatement_84 : decode cX14_serviceStatement 84 = .ok (.aload_n 0, 1) := by decide +kernel
theorem dX14_serviceStatement_85 : decode cX14_serviceStatement 85 = .ok (.bipush 61, 2) := by decide +kernel
theorem dX14_serviceStatement_87 : decode cX14_serviceStatement 87 = .ok (.invokevirtual 314, 3) := by decide +kernel
theorem dX14_serviceStatement_90 : decode cX14_serviceStatement 90 = .ok (.aload_n 0, 1) := by decide +kernel
theorem dX14_serviceStatement_91 : decode cX14_serviceStatement 91 = .ok (.getfield 73, 3) := by decide +kernel
theorem dX14_serviceStatement_94 : decode cX14_serviceStatement 94 = .ok (.bipush 16, 2) := by decide +kernel
theorem dX14_serviceStatement_96 : decode cX14_serviceStatement 96 = .ok (.iload_n 2, 1) := by decide +kernel
theorem dX14_serviceStatement_97 : decode cX14_serviceStatement 97 = .ok (.imul, 1) := by decide +kernel
theorem dX14_serviceStatement_98 : decode cX14_serviceStatement 98 = .ok (.iload_n 3, 1) := by decide +kernel
theorem dX14_serviceStatement_99 : decode cX14_serviceStatement 99 = .ok (.iadd, 1) := by decide +kernel
theorem dX14_serviceStatement_100 : decode cX14_serviceStatement 100 = .ok (.aload_n 0, 1) := by decide +kernel
theorem dX14_serviceStatement_101 : decode cX14_serviceStatement 101 = .ok (.iconst 0, 1) := by decide +kernel
theorem dX14_serviceStatement_102 : decode cX14_serviceStatement 102 = .ok (.sipush 191, 3) := by decide +kernel
theorem dX14_serviceStatement_105 : decode cX14_serviceStatement 105 = .ok (.invokevirtual 300, 3) := by decide +kernel
theorem dX14_serviceStatement_108 : decode cX14_serviceStatement 108 = .ok (.iastore, 1) := by decide +kernel
theorem dX14_serviceStatement_109 : decode cX14_serviceStatement 109 = .ok (.aload_n 0, 1) := by decide +kernel
theorem dX14_serviceStatement_110 : decode cX14_serviceStatement 110 = .ok (.bipush 123, 2) := by decide +kernel
theorem dX14_serviceStatement_112 : decode cX14_serviceStatement 112 = .ok (.invokevirtual 314, 3) := by decide +kernel
theorem dX14_serviceStatement_115 : decode cX14_serviceStatement 115 = .ok (.aload_n 0, 1) := by decide +kernel
theorem dX14_serviceStatement_116 : decode cX14_serviceStatement 116 = .ok (.bipush 9, 2) := by decide +kernel
theorem dX14_serviceStatement_118 : decode cX14_serviceStatement 118 = .ok (.invokevirtual 321, 3) := by decide +kernel
theorem dX14_serviceStatement_121 : decode cX14_serviceStatement 121 = .ok (.ifCond .eq 11, 3) := by decide +kernel
theorem dX14_serviceStatement_124 : decode cX14_serviceStatement 124 = .ok (.aload_n 0, 1) := by decide +kernel
theorem dX14_serviceStatement_125 : decode cX14_serviceStatement 125 = .ok (.iload_n 3, 1) := by decide +kernel
theorem dX14_serviceStatement_126 : decode cX14_serviceStatement 126 = .ok (.invokevirtual 330, 3) := by decide +kernel
theorem dX14_serviceStatement_129 : decode cX14_serviceStatement 129 = .ok (.goto (-14), 3) := by decide +kernel
theorem dX14_serviceStatement_132 : decode cX14_serviceStatement 132 = .ok (.aload_n 0, 1) := by decide +kernel
theorem dX14_serviceStatement_133 : decode cX14_serviceStatement 133 = .ok (.bipush 125, 2) := by decide +kernel
theorem dX14_serviceStatement_135 : decode cX14_serviceStatement 135 = .ok (.invokevirtual 314, 3) := by decide +kernel
theorem dX14_serviceStatement_138 : decode cX14_serviceStatement 138 = .ok (.return_, 1) := by decide +kernel
theorem dX14_paramStatement_0 : decode cX14_paramStatement 0 = .ok (.aload_n 0, 1) := by decide +kernel
theorem dX14_paramStatement_1 : decode cX14_paramStatement 1 = .ok (.getfield 187, 3) := by decide +kernel
theorem dX14_paramStatement_4 : decode cX14_paramStatement 4 = .ok (.istore_n 2, 1) := by decide +kernel
theorem dX14_paramStatement_5 : decode cX14_paramStatement 5 = .ok (.aload_n 0, 1) := by decide +kernel
theorem dX14_paramStatement_6 : decode cX14_paramStatement 6 = .ok (.aload_n 0, 1) := by decide +kernel
theorem dX14_paramStatement_7 : decode cX14_paramStatement 7 = .ok (.getfield 79, 3) := by decide +kernel
theorem dX14_paramStatement_10 : decode cX14_paramStatement 10 = .ok (.bipush 16, 2) := by decide +kernel
theorem dX14_paramStatement_12 : decode cX14_paramStatement 12 = .ok (.iload_n 2, 1) := by decide +kernel
theorem dX14_paramStatement_13 : decode cX14_paramStatement 13 = .ok (.imul, 1) := by decide +kernel
theorem dX14_paramStatement_14 : decode cX14_paramStatement 14 = .ok (.iload_n 1, 1) := by decide +kernel
theorem dX14_paramStatement_15 : decode cX14_paramStatement 15 = .ok (.iadd, 1) := by decide +kernel
theorem dX14_paramStatement_16 : decode cX14_paramStatement 16 = .ok (.iaload, 1) := by decide +kernel
theorem dX14_paramStatement_17 : decode cX14_paramStatement 17 = .ok (.bipush 8, 2) := by decide +kernel
theorem dX14_paramStatement_19 : decode cX14_paramStatement 19 = .ok (.invokevirtual 303, 3) := by decide +kernel
theorem dX14_paramStatement_22 : decode cX14_paramStatement 22 = .ok (.ifCond .ne 4, 3) := by decide +kernel
theorem dX14_paramStatement_25 : decode cX14_paramStatement 25 = .ok (.return_, 1) := by decide +kernel
theorem dX14_paramStatement_26 : decode cX14_paramStatement 26 = .ok (.bipush 8, 2) := by decide +kernel
theorem dX14_paramStatement_28 : decode cX14_paramStatement 28 = .ok (.iload_n 1, 1) := by decide +kernel
theorem dX14_paramStatement_29 : decode cX14_paramStatement 29 = .ok (.imul, 1) := by decide +kernel
theorem dX14_paramStatement_30 : decode cX14_paramStatement 30 = .ok (.aload_n 0, 1) := by decide +kernel
theorem dX14_paramStatement_31 : decode cX14_paramStatement 31 = .ok (.getfield 79, 3) := by decide +kernel
theorem dX14_paramStatement_34 : decode cX14_paramStatement 34 = .ok (.bipush 16, 2) := by decide +kernel
theorem dX14_paramStatement_36 : decode cX14_paramStatement 36 = .ok (.iload_n 2, 1) := by decide +kernel
theorem dX14_paramStatement_37 : decode cX14_paramStatement 37 = .ok (.imul, 1) := by decide +kernel
theorem dX14_paramStatement_38 : decode cX14_paramStatement 38 = .ok (.iload_n 1, 1) := by decide +kernel
theorem dX14_paramStatement_39 : decode cX14_paramStatement 39 = .ok (.iadd, 1) := by decide +kernel
theorem dX14_paramStatement_40 : decode cX14_paramStatement 40 = .ok (.iaload, 1) := by decide +kernel
theorem dX14_paramStatement_41 : decode cX14_paramStatement 41 = .ok (.iadd, 1) := by decide +kernel
theorem dX14_paramStatement_42 : decode cX14_paramStatement 42 = .ok (.istore_n 3, 1) := by decide +kernel
theorem dX14_paramStatement_43 : decode cX14_paramStatement 43 = .ok (.aload_n 0, 1) := by decide +kernel
theorem dX14_paramStatement_44 : decode cX14_paramStatement 44 = .ok (.iconst 5, 1) := by decide +kernel
theorem dX14_paramStatement_45 : decode cX14_paramStatement 45 = .ok (.iload_n 1, 1) := by decide +kernel
theorem dX14_paramStatement_46 : decode cX14_paramStatement 46 = .ok (.aload_n 0, 1) := by decide +kernel
theorem dX14_paramStatement_47 : decode cX14_paramStatement 47 = .ok (.getfield 79, 3) := by decide +kernel
theorem dX14_paramStatement_50 : decode cX14_paramStatement 50 = .ok (.bipush 16, 2) := by decide +kernel
theorem dX14_paramStatement_52 : decode cX14_paramStatement 52 = .ok (.iload_n 2, 1) := by decide +kernel
theorem dX14_paramStatement_53 : decode cX14_paramStatement 53 = .ok (.imul, 1) := by decide +kernel
theorem dX14_paramStatement_54 : decode cX14_paramStatement 54 = .ok (.iload_n 1, 1) := by decide +kernel
theorem dX14_paramStatement_55 : decode cX14_paramStatement 55 = .ok (.iadd, 1) := by decide +kernel
theorem dX14_paramStatement_56 : decode cX14_paramStatement 56 = .ok (.iaload, 1) := by decide +kernel
theorem dX14_paramStatement_57 : decode cX14_paramStatement 57 = .ok (.invokevirtual 307, 3) := by decide +kernel
theorem dX14_paramStatement_60 : decode cX14_paramStatement 60 = .ok (.aload_n 0, 1) := by decide +kernel
theorem dX14_paramStatement_61 : decode cX14_paramStatement 61 = .ok (.getfield 82, 3) := by decide +kernel
theorem dX14_paramStatement_64 : decode cX14_paramStatement 64 = .ok (.sipush 128, 3) := by decide +kernel
theorem dX14_paramStatement_67 : decode cX14_paramStatement 67 = .ok (.iload_n 2, 1) := by decide +kernel
theorem dX14_paramStatement_68 : decode cX14_paramStatement 68 = .ok (.imul, 1) := by decide +kernel
theorem dX14_paramStatement_69 : decode cX14_paramStatement 69 = .ok (.iload_n 3, 1) := by decide +kernel
theorem dX14_paramStatement_70 : decode cX14_paramStatement 70 = .ok (.iadd, 1) := by decide +kernel
theorem dX14_paramStatement_71 : decode cX14_paramStatement 71 = .ok (.aload_n 0, 1) := by decide +kernel
theorem dX14_paramStatement_72 : decode cX14_paramStatement 72 = .ok (.invokevirtual 311, 3) := by decide +kernel
theorem dX14_paramStatement_75 : decode cX14_paramStatement 75 = .ok (.iastore, 1) := by decide +kernel
theorem dX14_paramStatement_76 : decode cX14_paramStatement 76 = .ok (.aload_n 0, 1) := by decide +kernel
theorem dX14_paramStatement_77 : decode cX14_paramStatement 77 = .ok (.getfield 88, 3) := by decide +kernel
theorem dX14_paramStatement_80 : decode cX14_paramStatement 80 = .ok (.sipush 128, 3) := by decide +kernel
theorem dX14_paramStatement_83 : decode cX14_paramStatement 83 = .ok (.iload_n 2, 1) := by decide +kernel
theorem dX14_paramStatement_84 : decode cX14_paramStatement 84 = .ok (.imul, 1) := by decide +kernel
theorem dX14_paramStatement_85 : decode cX14_paramStatement 85 = .ok (.iload_n 3, 1) := by decide +kernel
theorem dX14_paramStatement_86 : decode cX14_paramStatement 86 = .ok (.iadd, 1) := by decide +kernel
theorem dX14_paramStatement_87 : decode cX14_paramStatement 87 = .ok (.iconst 0, 1) := by decide +kernel
theorem dX14_paramStatement_88 : decode cX14_paramStatement 88 = .ok (.iastore, 1) := by decide +kernel
theorem dX14_paramStatement_89 : decode cX14_paramStatement 89 = .ok (.aload_n 0, 1) := by decide +kernel
theorem dX14_paramStatement_90 : decode cX14_paramStatement 90 = .ok (.getfield 91, 3) := by decide +kernel
theorem dX14_paramStatement_93 : decode cX14_paramStatement 93 = .ok (.sipush 128, 3) := by decide +kernel
theorem dX14_paramStatement_96 : decode cX14_paramStatement 96 = .ok (.iload_n 2, 1) := by decide +kernel
theorem dX14_paramStatement_97 : decode cX14_paramStatement 97 = .ok (.imul, 1) := by decide +kernel
theorem dX14_paramStatement_98 : decode cX14_paramStatement 98 = .ok (.iload_n 3, 1) := by decide +kernel
theorem dX14_paramStatement_99 : decode cX14_paramStatement 99 = .ok (.iadd, 1) := by decide +kernel
theorem dX14_paramStatement_100 : decode cX14_paramStatement 100 = .ok (.iconst 0, 1) := by decide +kernel
theorem dX14_paramStatement_101 : decode cX14_paramStatement 101 = .ok (.iastore, 1) := by decide +kernel
theorem dX14_paramStatement_102 : decode cX14_paramStatement 102 = .ok (.aload_n 0, 1) := by decide +kernel
theorem dX14_paramStatement_103 : decode cX14_paramStatement 103 = .ok (.getfield 94, 3) := by decide +kernel
theorem dX14_paramStatement_106 : decode cX14_paramStatement 106 = .ok (.sipush 128, 3) := by decide +kernel
theorem dX14_paramStatement_109 : decode cX14_paramStatement 109 = .ok (.iload_n 2, 1) := by decide +kernel
theorem dX14_paramStatement_110 : decode cX14_paramStatement 110 = .ok (.imul, 1) := by decide +kernel
theorem dX14_paramStatement_111 : decode cX14_paramStatement 111 = .ok (.iload_n 3, 1) := by decide +kernel
theorem dX14_paramStatement_112 : decode cX14_paramStatement 112 = .ok (.iadd, 1) := by decide +kernel
theorem dX14_paramStatement_113 : decode cX14_paramStatement 113 = .ok (.iconst 0, 1) := by decide +kernel
theorem dX14_paramStatement_114 : decode cX14_paramStatement 114 = .ok (.iastore, 1) := by decide +kernel
theorem dX14_paramStatement_115 : decode cX14_paramStatement 115 = .ok (.aload_n 0, 1) := by decide +kernel
theorem dX14_paramStatement_116 : decode cX14_paramStatement 116 = .ok (.getfield 79, 3) := by decide +kernel
theorem dX14_paramStatement_119 : decode cX14_paramStatement 119 = .ok (.bipush 16, 2) := by decide +kernel
theorem dX14_paramStatement_121 : decode cX14_paramStatement 121 = .ok (.iload_n 2, 1) := by decide +kernel
theorem dX14_paramStatement_122 : decode cX14_paramStatement 122 = .ok (.imul, 1) := by decide +kernel
theorem dX14_paramStatement_123 : decode cX14_paramStatement 123 = .ok (.iload_n 1, 1) := by decide +kernel
theorem dX14_paramStatement_124 : decode cX14_paramStatement 124 = .ok (.iadd, 1) := by decide +kernel
theorem dX14_paramStatement_125 : decode cX14_paramStatement 125 = .ok (.dup2, 1) := by decide +kernel
theorem dX14_paramStatement_126 : decode cX14_paramStatement 126 = .ok (.iaload, 1) := by decide +kernel
theorem dX14_paramStatement_127 : decode cX14_paramStatement 127 = .ok (.iconst 1, 1) := by decide +kernel
theorem dX14_paramStatement_128 : decode cX14_paramStatement 128 = .ok (.iadd, 1) := by decide +kernel
theorem dX14_paramStatement_129 : decode cX14_paramStatement 129 = .ok (.iastore, 1) := by decide +kernel
theorem dX14_paramStatement_130 : decode cX14_paramStatement 130 = .ok (.aload_n 0, 1) := by decide +kernel
theorem dX14_paramStatement_131 : decode cX14_paramStatement 131 = .ok (.bipush 58, 2) := by decide +kernel
theorem dX14_paramStatement_133 : decode cX14_paramStatement 133 = .ok (.invokevirtual 314, 3) := by decide +kernel
theorem dX14_paramStatement_136 : decode cX14_paramStatement 136 = .ok (.aload_n 0, 1) := by decide +kernel
theorem dX14_paramStatement_137 : decode cX14_paramStatement 137 = .ok (.bipush 10, 2) := by decide +kernel
theorem dX14_paramStatement_139 : decode cX14_paramStatement 139 = .ok (.iload_n 3, 1) := by decide +kernel
theorem dX14_paramStatement_140 : decode cX14_paramStatement 140 = .ok (.iconst 0, 1) := by decide +kernel
theorem dX14_paramStatement_141 : decode cX14_paramStatement 141 = .ok (.invokevirtual 307, 3) := by decide +kernel
theorem dX14_paramStatement_144 : decode cX14_paramStatement 144 = .ok (.aload_n 0, 1) := by decide +kernel
theorem dX14_paramStatement_145 : decode cX14_paramStatement 145 = .ok (.getfield 85, 3) := by decide +kernel
theorem dX14_paramStatement_148 : decode cX14_paramStatement 148 = .ok (.sipush 128, 3) := by decide +kernel
theorem dX14_paramStatement_151 : decode cX14_paramStatement 151 = .ok (.iload_n 2, 1) := by decide +kernel
theorem dX14_paramStatement_152 : decode cX14_paramStatement 152 = .ok (.imul, 1) := by decide +kernel
theorem dX14_paramStatement_153 : decode cX14_paramStatement 153 = .ok (.iload_n 3, 1) := by decide +kernel
theorem dX14_paramStatement_154 : decode cX14_paramStatement 154 = .ok (.iadd, 1) := by decide +kernel
theorem dX14_paramStatement_155 : decode cX14_paramStatement 155 = .ok (.aload_n 0, 1) := by decide +kernel
theorem dX14_paramStatement_156 : decode cX14_paramStatement 156 = .ok (.invokevirtual 311, 3) := by decide +kernel
theorem dX14_paramStatement_159 : decode cX14_paramStatement 159 = .ok (.iastore, 1) := by decide +kernel
theorem dX14_paramStatement_160 : decode cX14_paramStatement 160 = .ok (.aload_n 0, 1) := by decide +kernel
theorem dX14_paramStatement_161 : decode cX14_paramStatement 161 = .ok (.bipush 10, 2) := by decide +kernel
theorem dX14_paramStatement_163 : decode cX14_paramStatement 163 = .ok (.invokevirtual 321, 3) := by decide +kernel
theorem dX14_paramStatement_166 : decode cX14_paramStatement 166 = .ok (.ifCond .ne 12, 3) := by decide +kernel
theorem dX14_paramStatement_169 : decode cX14_paramStatement 169 = .ok (.aload_n 0, 1) := by decide +kernel
theorem dX14_paramStatement_170 : decode cX14_paramStatement 170 = .ok (.bipush 11, 2) := by decide +kernel
theorem dX14_paramStatement_172 : decode cX14_paramStatement 172 = .ok (.invokevirtual 321, 3) := by decide +kernel
theorem dX14_paramStatement_175 : decode cX14_paramStatement 175 = .ok (.ifCond .eq 99, 3) := by decide +kernel
theorem dX14_paramStatement_178 : decode cX14_paramStatement 178 = .ok (.aload_n 0, 1) := by decide +kernel
theorem dX14_paramStatement_179 : decode cX14_paramStatement 179 = .ok (.getfield 88, 3) := by decide +kernel
theorem dX14_paramStatement_182 : decode cX14_paramStatement 182 = .ok (.sipush 128, 3) := by decide +kernel
theorem dX14_paramStatement_185 : decode cX14_paramStatement 185 = .ok (.iload_n 2, 1) := by decide +kernel
theorem dX14_paramStatement_186 : decode cX14_paramStatement 186 = .ok (.imul, 1) := by decide +kernel
theorem dX14_paramStatement_187 : decode cX14_paramStatement 187 = .ok (.iload_n 3, 1) := by decide +kernel
theorem dX14_paramStatement_188 : decode cX14_paramStatement 188 = .ok (.iadd, 1) := by decide +kernel
theorem dX14_paramStatement_189 : decode cX14_paramStatement 189 = .ok (.aload_n 0, 1) := by decide +kernel
theorem dX14_paramStatement_190 : decode cX14_paramStatement 190 = .ok (.getfield 262, 3) := by decide +kernel
theorem dX14_paramStatement_193 : decode cX14_paramStatement 193 = .ok (.bipush 10, 2) := by decide +kernel
theorem dX14_paramStatement_195 : decode cX14_paramStatement 195 = .ok (.if_icmp .ne 7, 3) := by decide +kernel
theorem dX14_paramStatement_198 : decode cX14_paramStatement 198 = .ok (.iconst 1, 1) := by decide +kernel
theorem dX14_paramStatement_199 : decode cX14_paramStatement 199 = .ok (.goto 4, 3) := by decide +kernel
theorem dX14_paramStatement_202 : decode cX14_paramStatement 202 = .ok (.iconst 2, 1) := by decide +kernel
theorem dX14_paramStatement_203 : decode cX14_paramStatement 203 = .ok (.iastore, 1) := by decide +kernel
theorem dX14_paramStatement_204 : decode cX14_paramStatement 204 = .ok (.aload_n 0, 1) := by decide +kernel
theorem dX14_paramStatement_205 : decode cX14_paramStatement 205 = .ok (.invokevirtual 286, 3) := by decide +kernel
theorem dX14_paramStatement_208 : decode cX14_paramStatement 208 = .ok (.aload_n 0, 1) := by decide +kernel
theorem dX14_paramStatement_209 : decode cX14_paramStatement 209 = .ok (.bipush 11, 2) := by decide +kernel
theorem dX14_paramStatement_211 : decode cX14_paramStatement 211 = .ok (.iload_n 1, 1) := by decide +kernel
theorem dX14_paramStatement_212 : decode cX14_paramStatement 212 = .ok (.iload_n 3, 1) := by decide +kernel
theorem dX14_paramStatement_213 : decode cX14_paramStatement 213 = .ok (.invokevirtual 307, 3) := by decide +kernel
theorem dX14_paramStatement_216 : decode cX14_paramStatement 216 = .ok (.aload_n 0, 1) := by decide +kernel
theorem dX14_paramStatement_217 : decode cX14_paramStatement 217 = .ok (.getfield 91, 3) := by decide +kernel
theorem dX14_paramStatement_220 : decode cX14_paramStatement 220 = .ok (.sipush 128, 3) := by decide +kernel
theorem dX14_paramStatement_223 : decode cX14_paramStatement 223 = .ok (.iload_n 2, 1) := by decide +kernel
theorem dX14_paramStatement_224 : decode cX14_paramStatement 224 = .ok (.imul, 1) := by decide +kernel
theorem dX14_paramStatement_225 : decode cX14_paramStatement 225 = .ok (.iload_n 3, 1) := by decide +kernel
theorem dX14_paramStatement_226 : decode cX14_paramStatement 226 = .ok (.iadd, 1) := by decide +kernel
theorem dX14_paramStatement_227 : decode cX14_paramStatement 227 = .ok (.aload_n 0, 1) := by decide +kernel
theorem dX14_paramStatement_228 : decode cX14_paramStatement 228 = .ok (.invokevirtual 311, 3) := by decide +kernel
theorem dX14_paramStatement_231 : decode cX14_paramStatement 231 = .ok (.iastore, 1) := by decide +kernel
theorem dX14_paramStatement_232 : decode cX14_paramStatement 232 = .ok (.aload_n 0, 1) := by decide +kernel
theorem dX14_paramStatement_233 : decode cX14_paramStatement 233 = .ok (.getfield 88, 3) := by decide +kernel
theorem dX14_paramStatement_236 : decode cX14_paramStatement 236 = .ok (.sipush 128, 3) := by decide +kernel
theorem dX14_paramStatement_239 : decode cX14_paramStatement 239 = .ok (.iload_n 2, 1) := by decide +kernel
theorem dX14_paramStatement_240 : decode cX14_paramStatement 240 = .ok (.imul, 1) := by decide +kernel
theorem dX14_paramStatement_241 : decode cX14_paramStatement 241 = .ok (.iload_n 3, 1) := by decide +kernel
theorem dX14_paramStatement_242 : decode cX14_paramStatement 242 = .ok (.iadd, 1) := by decide +kernel
theorem dX14_paramStatement_243 : decode cX14_paramStatement 243 = .ok (.iaload, 1) := by decide +kernel
theorem dX14_paramStatement_244 : decode cX14_paramStatement 244 = .ok (.iconst 1, 1) := by decide +kernel
theorem dX14_paramStatement_245 : decode cX14_paramStatement 245 = .ok (.if_icmp .ne 29, 3) := by decide +kernel
theorem dX14_paramStatement_248 : decode cX14_paramStatement 248 = .ok (.aload_n 0, 1) := by decide +kernel
theorem dX14_paramStatement_249 : decode cX14_paramStatement 249 = .ok (.bipush 61, 2) := by decide +kernel
theorem dX14_paramStatement_251 : decode cX14_paramStatement 251 = .ok (.invokevirtual 314, 3) := by decide +kernel
theorem dX14_paramStatement_254 : decode cX14_paramStatement 254 = .ok (.aload_n 0, 1) := by decide +kernel
theorem dX14_paramStatement_255 : decode cX14_paramStatement 255 = .ok (.getfield 94, 3) := by decide +kernel
theorem dX14_paramStatement_258 : decode cX14_paramStatement 258 = .ok (.sipush 128, 3) := by decide +kernel
theorem dX14_paramStatement_261 : decode cX14_paramStatement 261 = .ok (.iload_n 2, 1) := by decide +kernel
theorem dX14_paramStatement_262 : decode cX14_paramStatement 262 = .ok (.imul, 1) := by decide +kernel
theorem dX14_paramStatement_263 : decode cX14_paramStatement 263 = .ok (.iload_n 3, 1) := by decide +kernel
theorem dX14_paramStatement_264 : decode cX14_paramStatement 264 = .ok (.iadd, 1) := by decide +kernel
theorem dX14_paramStatement_265 : decode cX14_paramStatement 265 = .ok (.aload_n 0, 1) := by decide +kernel
theorem dX14_paramStatement_266 : decode cX14_paramStatement 266 = .ok (.iconst 0, 1) := by decide +kernel
theorem dX14_paramStatement_267 : decode cX14_paramStatement 267 = .ok (.ldc_w 299, 3) := by decide +kernel
theorem dX14_paramStatement_270 : decode cX14_paramStatement 270 = .ok (.invokevirtual 300, 3) := by decide +kernel
theorem dX14_paramStatement_273 : decode cX14_paramStatement 273 = .ok (.iastore, 1) := by decide +kernel
theorem dX14_paramStatement_274 : decode cX14_paramStatement 274 = .ok (.aload_n 0, 1) := by decide +kernel
theorem dX14_paramStatement_275 : decode cX14_paramStatement 275 = .ok (.bipush 59, 2) := by decide +kernel
theorem dX14_paramStatement_277 : decode cX14_paramStatement 277 = .ok (.invokevirtual 314, 3) := by decide +kernel
theorem dX14_paramStatement_280 : decode cX14_paramStatement 280 = .ok (.return_, 1) := by decide +kernel
theorem dX14_codeStatement_0 : decode cX14_codeStatement 0 = .ok (.aload_n 0, 1) := by decide +kernel
theorem dX14_codeStatement_1 : decode cX14_codeStatement 1 = .ok (.getfield 187, 3) := by decide +kernel
theorem dX14_codeStatement_4 : decode cX14_codeStatement 4 = .ok (.istore_n 1, 1) := by decide +kernel
theorem dX14_codeStatement_5 : decode cX14_codeStatement 5 = .ok (.aload_n 0, 1) := by decide +kernel
theorem dX14_codeStatement_6 : decode cX14_codeStatement 6 = .ok (.aload_n 0, 1) := by decide +kernel
theorem dX14_codeStatement_7 : decode cX14_codeStatement 7 = .ok (.getfield 22, 3) := by decide +kernel
theorem dX14_codeStatement_10 : decode cX14_codeStatement 10 = .ok (.iload_n 1, 1) := by decide +kernel
theorem dX14_codeStatement_11 : decode cX14_codeStatement 11 = .ok (.iaload, 1) := by decide +kernel
theorem dX14_codeStatement_12 : decode cX14_codeStatement 12 = .ok (.bipush 12, 2) := by decide +kernel
theorem dX14_codeStatement_14 : decode cX14_codeStatement 14 = .ok (.invokevirtual 303, 3) := by decide +kernel
theorem dX14_codeStatement_17 : decode cX14_codeStatement 17 = .ok (.ifCond .ne 4, 3) := by decide +kernel
theorem dX14_codeStatement_20 : decode cX14_codeStatement 20 = .ok (.return_, 1) := by decide +kernel
theorem dX14_codeStatement_21 : decode cX14_codeStatement 21 = .ok (.aload_n 0, 1) := by decide +kernel
theorem dX14_codeStatement_22 : decode cX14_codeStatement 22 = .ok (.bipush 7, 2) := by decide +kernel
theorem dX14_codeStatement_24 : decode cX14_codeStatement 24 = .ok (.aload_n 0, 1) := by decide +kernel
theorem dX14_codeStatement_25 : decode cX14_codeStatement 25 = .ok (.getfield 22, 3) := by decide +kernel
theorem dX14_codeStatement_28 : decode cX14_codeStatement 28 = .ok (.iload_n 1, 1) := by decide +kernel
theorem dX14_codeStatement_29 : decode cX14_codeStatement 29 = .ok (.iaload, 1) := by decide +kernel
theorem dX14_codeStatement_30 : decode cX14_codeStatement 30 = .ok (.iconst 0, 1) := by decide +kernel
theorem dX14_codeStatement_31 : decode cX14_codeStatement 31 = .ok (.invokevirtual 307, 3) := by decide +kernel
theorem dX14_codeStatement_34 : decode cX14_codeStatement 34 = .ok (.aload_n 0, 1) := by decide +kernel
theorem dX14_codeStatement_35 : decode cX14_codeStatement 35 = .ok (.getfield 97, 3) := by decide +kernel
theorem dX14_codeStatement_38 : decode cX14_codeStatement 38 = .ok (.bipush 12, 2) := by decide +kernel
theorem dX14_codeStatement_40 : decode cX14_codeStatement 40 = .ok (.iload_n 1, 1) := by decide +kernel
theorem dX14_codeStatement_41 : decode cX14_codeStatement 41 = .ok (.imul, 1) := by decide +kernel
theorem dX14_codeStatement_42 : decode cX14_codeStatement 42 = .ok (.aload_n 0, 1) := by decide +kernel
theorem dX14_codeStatement_43 : decode cX14_codeStatement 43 = .ok (.getfield 22, 3) := by decide +kernel
theorem dX14_codeStatement_46 : decode cX14_codeStatement 46 = .ok (.iload_n 1, 1) := by decide +kernel
theorem dX14_codeStatement_47 : decode cX14_codeStatement 47 = .ok (.iaload, 1) := by decide +kernel
theorem dX14_codeStatement_48 : decode cX14_codeStatement 48 = .ok (.iadd, 1) := by decide +kernel
theorem dX14_codeStatement_49 : decode cX14_codeStatement 49 = .ok (.aload_n 0, 1) := by decide +kernel
theorem dX14_codeStatement_50 : decode cX14_codeStatement 50 = .ok (.iconst 0, 1) := by decide +kernel
theorem dX14_codeStatement_51 : decode cX14_codeStatement 51 = .ok (.ldc_w 299, 3) := by decide +kernel
theorem dX14_codeStatement_54 : decode cX14_codeStatement 54 = .ok (.invokevirtual 300, 3) := by decide +kernel
theorem dX14_codeStatement_57 : decode cX14_codeStatement 57 = .ok (.iastore, 1) := by decide +kernel
theorem dX14_codeStatement_58 : decode cX14_codeStatement 58 = .ok (.aload_n 0, 1) := by decide +kernel
theorem dX14_codeStatement_59 : decode cX14_codeStatement 59 = .ok (.bipush 61, 2) := by decide +kernel
theorem dX14_codeStatement_61 : decode cX14_codeStatement 61 = .ok (.invokevirtual 314, 3) := by decide +kernel
theorem dX14_codeStatement_64 : decode cX14_codeStatement 64 = .ok (.aload_n 0, 1) := by decide +kernel
theorem dX14_codeStatement_65 : decode cX14_codeStatement 65 = .ok (.getfield 100, 3) := by decide +kernel
theorem dX14_codeStatement_68 : decode cX14_codeStatement 68 = .ok (.bipush 12, 2) := by decide +kernel
theorem dX14_codeStatement_70 : decode cX14_codeStatement 70 = .ok (.iload_n 1, 1) := by decide +kernel
theorem dX14_codeStatement_71 : decode cX14_codeStatement 71 = .ok (.imul, 1) := by decide +kernel
theorem dX14_codeStatement_72 : decode cX14_codeStatement 72 = .ok (.aload_n 0, 1) := by decide +kernel
theorem dX14_codeStatement_73 : decode cX14_codeStatement 73 = .ok (.getfield 22, 3) := by decide +kernel
theorem dX14_codeStatement_76 : decode cX14_codeStatement 76 = .ok (.iload_n 1, 1) := by decide +kernel
theorem dX14_codeStatement_77 : decode cX14_codeStatement 77 = .ok (.iaload, 1) := by decide +kernel
theorem dX14_codeStatement_78 : decode cX14_codeStatement 78 = .ok (.iadd, 1) := by decide +kernel
theorem dX14_codeStatement_79 : decode cX14_codeStatement 79 = .ok (.aload_n 0, 1) := by decide +kernel
theorem dX14_codeStatement_80 : decode cX14_codeStatement 80 = .ok (.invokevirtual 311, 3) := by decide +kernel
theorem dX14_codeStatement_83 : decode cX14_codeStatement 83 = .ok (.iastore, 1) := by decide +kernel
theorem dX14_codeStatement_84 : decode cX14_codeStatement 84 = .ok (.aload_n 0, 1) := by decide +kernel
theorem dX14_codeStatement_85 : decode cX14_codeStatement 85 = .ok (.getfield 22, 3) := by decide +kernel
theorem dX14_codeStatement_88 : decode cX14_codeStatement 88 = .ok (.iload_n 1, 1) := by decide +kernel
theorem dX14_codeStatement_89 : decode cX14_codeStatement 89 = .ok (.dup2, 1) := by decide +kernel
theorem dX14_codeStatement_90 : decode cX14_codeStatement 90 = .ok (.iaload, 1) := by decide +kernel
theorem dX14_codeStatement_91 : decode cX14_codeStatement 91 = .ok (.iconst 1, 1) := by decide +kernel
theorem dX14_codeStatement_92 : decode cX14_codeStatement 92 = .ok (.iadd, 1) := by decide +kernel
theorem dX14_codeStatement_93 : decode cX14_codeStatement 93 = .ok (.iastore, 1) := by decide +kernel
theorem dX14_codeStatement_94 : decode cX14_codeStatement 94 = .ok (.aload_n 0, 1) := by decide +kernel
theorem dX14_codeStatement_95 : decode cX14_codeStatement 95 = .ok (.bipush 59, 2) := by decide +kernel
theorem dX14_codeStatement_97 : decode cX14_codeStatement 97 = .ok (.invokevirtual 314, 3) := by decide +kernel
theorem dX14_codeStatement_100 : decode cX14_codeStatement 100 = .ok (.return_, 1) := by decide +kernel
theorem dX14_variantStatement_0 : decode cX14_variantStatement 0 = .ok (.aload_n 0, 1) := by decide +kernel
theorem dX14_variantStatement_1 : decode cX14_variantStatement 1 = .ok (.getfield 187, 3) := by decide +kernel
theorem dX14_variantStatement_4 : decode cX14_variantStatement 4 = .ok (.istore_n 1, 1) := by decide +kernel
theorem dX14_variantStatement_5 : decode cX14_variantStatement 5 = .ok (.aload_n 0, 1) := by decide +kernel
theorem dX14_variantStatement_6 : decode cX14_variantStatement 6 = .ok (.aload_n 0, 1) := by decide +kernel
theorem dX14_variantStatement_7 : decode cX14_variantStatement 7 = .ok (.getfield 25, 3) := by decide +kernel
theorem dX14_variantStatement_10 : decode cX14_variantStatement 10 = .ok (.iload_n 1, 1) := by decide +kernel
theorem dX14_variantStatement_11 : decode cX14_variantStatement 11 = .ok (.iaload, 1) := by decide +kernel
theorem dX14_variantStatement_12 : decode cX14_variantStatement 12 = .ok (.bipush 6, 2) := by decide +kernel
theorem dX14_variantStatement_14 : decode cX14_variantStatement 14 = .ok (.invokevirtual 303, 3) := by decide +kernel
theorem dX14_variantStatement_17 : decode cX14_variantStatement 17 = .ok (.ifCond .ne 4, 3) := by decide +kernel
theorem dX14_variantStatement_20 : decode cX14_variantStatement 20 = .ok (.return_, 1) := by decide +kernel
theorem dX14_variantStatement_21 : decode cX14_variantStatement 21 = .ok (.aload_n 0, 1) := by decide +kernel
theorem dX14_variantStatement_22 : decode cX14_variantStatement 22 = .ok (.getfield 25, 3) := by decide +kernel
theorem dX14_variantStatement_25 : decode cX14_variantStatement 25 = .ok (.iload_n 1, 1) := by decide +kernel
theorem dX14_variantStatement_26 : decode cX14_variantStatement 26 = .ok (.iaload, 1) := by decide +kernel
theorem dX14_variantStatement_27 : decode cX14_variantStatement 27 = .ok (.istore_n 2, 1) := by decide +kernel
theorem dX14_variantStatement_28 : decode cX14_variantStatement 28 = .ok (.aload_n 0, 1) := by decide +kernel
theorem dX14_variantStatement_29 : decode cX14_variantStatement 29 = .ok (.bipush 12, 2) := by decide +kernel
theorem dX14_variantStatement_31 : decode cX14_variantStatement 31 = .ok (.iload_n 2, 1) := by decide +kernel
theorem dX14_variantStatement_32 : decode cX14_variantStatement 32 = .ok (.iconst 0, 1) := by decide +kernel
theorem dX14_variantStatement_33 : decode cX14_variantStatement 33 = .ok (.invokevirtual 307, 3) := by decide +kernel
theorem dX14_variantStatement_36 : decode cX14_variantStatement 36 = .ok (.aload_n 0, 1) := by decide +kernel
theorem dX14_variantStatement_37 : decode cX14_variantStatement 37 = .ok (.getfield 103, 3) := by decide +kernel
theorem dX14_variantStatement_40 : decode cX14_variantStatement 40 = .ok (.bipush 6, 2) := by decide +kernel
theorem dX14_variantStatement_42 : decode cX14_variantStatement 42 = .ok (.iload_n 1, 1) := by decide +kernel
theorem dX14_variantStatement_43 : decode cX14_variantStatement 43 = .ok (.imul, 1) := by decide +kernel
theorem dX14_variantStatement_44 : decode cX14_variantStatement 44 = .ok (.iload_n 2, 1) := by decide +kernel
theorem dX14_variantStatement_45 : decode cX14_variantStatement 45 = .ok (.iadd, 1) := by decide +kernel
theorem dX14_variantStatement_46 : decode cX14_variantStatement 46 = .ok (.aload_n 0, 1) := by decide +kernel
theorem dX14_variantStatement_47 : decode cX14_variantStatement 47 = .ok (.invokevirtual 311, 3) := by decide +kernel
theorem dX14_variantStatement_50 : decode cX14_variantStatement 50 = .ok (.iastore, 1) := by decide +kernel
theorem dX14_variantStatement_51 : decode cX14_variantStatement 51 = .ok (.aload_n 0, 1) := by decide +kernel
theorem dX14_variantStatement_52 : decode cX14_variantStatement 52 = .ok (.getfield 25, 3) := by decide +kernel
theorem dX14_variantStatement_55 : decode cX14_variantStatement 55 = .ok (.iload_n 1, 1) := by decide +kernel
theorem dX14_variantStatement_56 : decode cX14_variantStatement 56 = .ok (.dup2, 1) := by decide +kernel
theorem dX14_variantStatement_57 : decode cX14_variantStatement 57 = .ok (.iaload, 1) := by decide +kernel
theorem dX14_variantStatement_58 : decode cX14_variantStatement 58 = .ok (.iconst 1, 1) := by decide +kernel
theorem dX14_variantStatement_59 : decode cX14_variantStatement 59 = .ok (.iadd, 1) := by decide +kernel
theorem dX14_variantStatement_60 : decode cX14_variantStatement 60 = .ok (.iastore, 1) := by decide +kernel
theorem dX14_variantStatement_61 : decode cX14_variantStatement 61 = .ok (.aload_n 0, 1) := by decide +kernel
theorem dX14_variantStatement_62 : decode cX14_variantStatement 62 = .ok (.bipush 61, 2) := by decide +kernel
theorem dX14_variantStatement_64 : decode cX14_variantStatement 64 = .ok (.invokevirtual 314, 3) := by decide +kernel
theorem dX14_variantStatement_67 : decode cX14_variantStatement 67 = .ok (.aload_n 0, 1) := by decide +kernel
theorem dX14_variantStatement_68 : decode cX14_variantStatement 68 = .ok (.bipush 8, 2) := by decide +kernel
theorem dX14_variantStatement_70 : decode cX14_variantStatement 70 = .ok (.iload_n 2, 1) := by decide +kernel
theorem dX14_variantStatement_71 : decode cX14_variantStatement 71 = .ok (.iconst 0, 1) := by decide +kernel
theorem dX14_variantStatement_72 : decode cX14_variantStatement 72 = .ok (.invokevirtual 307, 3) := by decide +kernel
theorem dX14_variantStatement_75 : decode cX14_variantStatement 75 = .ok (.aload_n 0, 1) := by decide +kernel
theorem dX14_variantStatement_76 : decode cX14_variantStatement 76 = .ok (.getfield 106, 3) := by decide +kernel
theorem dX14_variantStatement_79 : decode cX14_variantStatement 79 = .ok (.bipush 6, 2) := by decide +kernel
theorem dX14_variantStatement_81 : decode cX14_variantStatement 81 = .ok (.iload_n 1, 1) := by decide +kernel
theorem dX14_variantStatement_82 : decode cX14_variantStatement 82 = .ok (.imul, 1) := by decide +kernel
theorem dX14_variantStatement_83 : decode cX14_variantStatement 83 = .ok (.iload_n 2, 1) := by decide +kernel
theorem dX14_variantStatement_84 : decode cX14_variantStatement 84 = .ok (.iadd, 1) := by decide +kernel
theorem dX14_variantStatement_85 : decode cX14_variantStatement 85 = .ok (.aload_n 0, 1) := by decide +kernel
theorem dX14_variantStatement_86 : decode cX14_variantStatement 86 = .ok (.iconst 0, 1) := by decide +kernel
theorem dX14_variantStatement_87 : decode cX14_variantStatement 87 = .ok (.ldc_w 299, 3) := by decide +kernel
theorem dX14_variantStatement_90 : decode cX14_variantStatement 90 = .ok (.invokevirtual 300, 3) := by decide +kernel
theorem dX14_variantStatement_93 : decode cX14_variantStatement 93 = .ok (.iastore, 1) := by decide +kernel
theorem dX14_variantStatement_94 : decode cX14_variantStatement 94 = .ok (.aload_n 0, 1) := by decide +kernel
theorem dX14_variantStatement_95 : decode cX14_variantStatement 95 = .ok (.bipush 59, 2) := by decide +kernel
theorem dX14_variantStatement_97 : decode cX14_variantStatement 97 = .ok (.invokevirtual 314, 3) := by decide +kernel
theorem dX14_variantStatement_100 : decode cX14_variantStatement 100 = .ok (.return_, 1) := by decide +kernel
theorem dX14_jobStatement_0 : decode cX14_jobStatement 0 = .ok (.aload_n 0, 1) := by decide +kernel
theorem dX14_jobStatement_1 : decode cX14_jobStatement 1 = .ok (.getfield 187, 3) := by decide +kernel
theorem dX14_jobStatement_4 : decode cX14_jobStatement 4 = .ok (.istore_n 1, 1) := by decide +kernel
theorem dX14_jobStatement_5 : decode cX14_jobStatement 5 = .ok (.aload_n 0, 1) := by decide +kernel
theorem dX14_jobStatement_6 : decode cX14_jobStatement 6 = .ok (.aload_n 0, 1) := by decide +kernel
theorem dX14_jobStatement_7 : decode cX14_jobStatement 7 = .ok (.getfield 28, 3) := by decide +kernel
theorem dX14_jobStatement_10 : decode cX14_jobStatement 10 = .ok (.iload_n 1, 1) := by decide +kernel
theorem dX14_jobStatement_11 : decode cX14_jobStatement 11 = .ok (.iaload, 1) := by decide +kernel
theorem dX14_jobStatement_12 : decode cX14_jobStatement 12 = .ok (.iconst 4, 1) := by decide +kernel
theorem dX14_jobStatement_13 : decode cX14_jobStatement 13 = .ok (.invokevirtual 303, 3) := by decide +kernel
theorem dX14_jobStatement_16 : decode cX14_jobStatement 16 = .ok (.ifCond .ne 4, 3) := by decide +kernel
theorem dX14_jobStatement_19 : decode cX14_jobStatement 19 = .ok (.return_, 1) := by decide +kernel
theorem dX14_jobStatement_20 : decode cX14_jobStatement 20 = .ok (.aload_n 0, 1) := by decide +kernel
theorem dX14_jobStatement_21 : decode cX14_jobStatement 21 = .ok (.getfield 28, 3) := by decide +kernel
theorem dX14_jobStatement_24 : decode cX14_jobStatement 24 = .ok (.iload_n 1, 1) := by decide +kernel
theorem dX14_jobStatement_25 : decode cX14_jobStatement 25 = .ok (.iaload, 1) := by decide +kernel
theorem dX14_jobStatement_26 : decode cX14_jobStatement 26 = .ok (.istore_n 2, 1) := by decide +kernel
theorem dX14_jobStatement_27 : decode cX14_jobStatement 27 = .ok (.aload_n 0, 1) := by decide +kernel
theorem dX14_jobStatement_28 : decode cX14_jobStatement 28 = .ok (.iconst 3, 1) := by decide +kernel
theorem dX14_jobStatement_29 : decode cX14_jobStatement 29 = .ok (.iload_n 2, 1) := by decide +kernel
theorem dX14_jobStatement_30 : decode cX14_jobStatement 30 = .ok (.iconst 0, 1) := by decide +kernel
theorem dX14_jobStatement_31 : decode cX14_jobStatement 31 = .ok (.invokevirtual 307, 3) := by decide +kernel
theorem dX14_jobStatement_34 : decode cX14_jobStatement 34 = .ok (.aload_n 0, 1) := by decide +kernel
theorem dX14_jobStatement_35 : decode cX14_jobStatement 35 = .ok (.getfield 109, 3) := by decide +kernel
theorem dX14_jobStatement_38 : decode cX14_jobStatement 38 = .ok (.iconst 4, 1) := by decide +kernel
theorem dX14_jobStatement_39 : decode cX14_jobStatement 39 = .ok (.iload_n 1, 1) := by decide +kernel
theorem dX14_jobStatement_40 : decode cX14_jobStatement 40 = .ok (.imul, 1) := by decide +kernel
theorem dX14_jobStatement_41 : decode cX14_jobStatement 41 = .ok (.iload_n 2, 1) := by decide +kernel
theorem dX14_jobStatement_42 : decode cX14_jobStatement 42 = .ok (.iadd, 1) := by decide +kernel
theorem dX14_jobStatement_43 : decode cX14_jobStatement 43 = .ok (.aload_n 0, 1) := by decide +kernel
theorem dX14_jobStatement_44 : decode cX14_jobStatement 44 = .ok (.invokevirtual 311, 3) := by decide +kernel
theorem dX14_jobStatement_47 : decode cX14_jobStatement 47 = .ok (.iastore, 1) := by decide +kernel
theorem dX14_jobStatement_48 : decode cX14_jobStatement 48 = .ok (.aload_n 0, 1) := by decide +kernel
theorem dX14_jobStatement_49 : decode cX14_jobStatement 49 = .ok (.getfield 112, 3) := by decide +kernel
theorem dX14_jobStatement_52 : decode cX14_jobStatement 52 = .ok (.iconst 4, 1) := by decide +kernel
theorem dX14_jobStatement_53 : decode cX14_jobStatement 53 = .ok (.iload_n 1, 1) := by decide +kernel
theorem dX14_jobStatement_54 : decode cX14_jobStatement 54 = .ok (.imul, 1) := by decide +kernel
theorem dX14_jobStatement_55 : decode cX14_jobStatement 55 = .ok (.iload_n 2, 1) := by decide +kernel
theorem dX14_jobStatement_56 : decode cX14_jobStatement 56 = .ok (.iadd, 1) := by decide +kernel
theorem dX14_jobStatement_57 : decode cX14_jobStatement 57 = .ok (.iconst 0, 1) := by decide +kernel
theorem dX14_jobStatement_58 : decode cX14_jobStatement 58 = .ok (.iastore, 1) := by decide +kernel
theorem dX14_jobStatement_59 : decode cX14_jobStatement 59 = .ok (.aload_n 0, 1) := by decide +kernel
theorem dX14_jobStatement_60 : decode cX14_jobStatement 60 = .ok (.getfield 28, 3) := by decide +kernel
theorem dX14_jobStatement_63 : decode cX14_jobStatement 63 = .ok (.iload_n 1, 1) := by decide +kernel
theorem dX14_jobStatement_64 : decode cX14_jobStatement 64 = .ok (.dup2, 1) := by decide +kernel
theorem dX14_jobStatement_65 : decode cX14_jobStatement 65 = .ok (.iaload, 1) := by decide +kernel
theorem dX14_jobStatement_66 : decode cX14_jobStatement 66 = .ok (.iconst 1, 1) := by decide +kernel
theorem dX14_jobStatement_67 : decode cX14_jobStatement 67 = .ok (.iadd, 1) := by decide +kernel
theorem dX14_jobStatement_68 : decode cX14_jobStatement 68 = .ok (.iastore, 1) := by decide +kernel
theorem dX14_jobStatement_69 : decode cX14_jobStatement 69 = .ok (.aload_n 0, 1) := by decide +kernel
theorem dX14_jobStatement_70 : decode cX14_jobStatement 70 = .ok (.iconst 0, 1) := by decide +kernel
theorem dX14_jobStatement_71 : decode cX14_jobStatement 71 = .ok (.putfield 333, 3) := by decide +kernel
theorem dX14_jobStatement_74 : decode cX14_jobStatement 74 = .ok (.aload_n 0, 1) := by decide +kernel
theorem dX14_jobStatement_75 : decode cX14_jobStatement 75 = .ok (.bipush 123, 2) := by decide +kernel
theorem dX14_jobStatement_77 : decode cX14_jobStatement 77 = .ok (.invokevirtual 314, 3) := by decide +kernel
theorem dX14_jobStatement_80 : decode cX14_jobStatement 80 = .ok (.iconst (-1), 1) := by decide +kernel
theorem dX14_jobStatement_81 : decode cX14_jobStatement 81 = .ok (.istore_n 3, 1) := by decide +kernel
theorem dX14_jobStatement_82 : decode cX14_jobStatement 82 = .ok (.iconst (-1), 1) := by decide +kernel
theorem dX14_jobStatement_83 : decode cX14_jobStatement 83 = .ok (.istore 4, 2) := by decide +kernel
theorem dX14_jobStatement_85 : decode cX14_jobStatement 85 = .ok (.iconst (-1), 1) := by decide +kernel
theorem dX14_jobStatement_86 : decode cX14_jobStatement 86 = .ok (.istore 5, 2) := by decide +kernel
theorem dX14_jobStatement_88 : decode cX14_jobStatement 88 = .ok (.aload_n 0, 1) := by decide +kernel
theorem dX14_jobStatement_89 : decode cX14_jobStatement 89 = .ok (.iconst 0, 1) := by decide +kernel
theorem dX14_jobStatement_90 : decode cX14_jobStatement 90 = .ok (.putfield 336, 3) := by decide +kernel
theorem dX14_jobStatement_93 : decode cX14_jobStatement 93 = .ok (.aload_n 0, 1) := by decide +kernel
theorem dX14_jobStatement_94 : decode cX14_jobStatement 94 = .ok (.getfield 282, 3) := by decide +kernel
theorem dX14_jobStatement_97 : decode cX14_jobStatement 97 = .ok (.ifCond .eq 261, 3) := by decide +kernel
theorem dX14_jobStatement_100 : decode cX14_jobStatement 100 = .ok (.aload_n 0, 1) := by decide +kernel
theorem dX14_jobStatement_101 : decode cX14_jobStatement 101 = .ok (.getfield 336, 3) := by decide +kernel
theorem dX14_jobStatement_104 : decode cX14_jobStatement 104 = .ok (.ifCond .gt 12, 3) := by decide +kernel
theorem dX14_jobStatement_107 : decode cX14_jobStatement 107 = .ok (.aload_n 0, 1) := by decide +kernel
theorem dX14_jobStatement_108 : decode cX14_jobStatement 108 = .ok (.bipush 125, 2) := by decide +kernel
theorem dX14_jobStatement_110 : decode cX14_jobStatement 110 = .ok (.invokevirtual 296, 3) := by decide +kernel
theorem dX14_jobStatement_113 : decode cX14_jobStatement 113 = .ok (.ifCond .ne 245, 3) := by decide +kernel
theorem dX14_jobStatement_116 : decode cX14_jobStatement 116 = .ok (.aload_n 0, 1) := by decide +kernel
theorem dX14_jobStatement_117 : decode cX14_jobStatement 117 = .ok (.bipush 125, 2) := by decide +kernel
theorem dX14_jobStatement_119 : decode cX14_jobStatement 119 = .ok (.invokevirtual 296, 3) := by decide +kernel
theorem dX14_jobStatement_122 : decode cX14_jobStatement 122 = .ok (.ifCond .eq 87, 3) := by decide +kernel
theorem dX14_jobStatement_125 : decode cX14_jobStatement 125 = .ok (.aload_n 0, 1) := by decide +kernel
theorem dX14_jobStatement_126 : decode cX14_jobStatement 126 = .ok (.getfield 336, 3) := by decide +kernel
theorem dX14_jobStatement_129 : decode cX14_jobStatement 129 = .ok (.iconst 3, 1) := by decide +kernel
theorem dX14_jobStatement_130 : decode cX14_jobStatement 130 = .ok (.if_icmp .ne 8, 3) := by decide +kernel
theorem dX14_jobStatement_133 : decode cX14_jobStatement 133 = .ok (.iload 5, 2) := by decide +kernel
theorem dX14_jobStatement_135 : decode cX14_jobStatement 135 = .ok (.goto 17, 3) := by decide +kernel
theorem dX14_jobStatement_138 : decode cX14_jobStatement 138 = .ok (.aload_n 0, 1) := by decide +kernel
theorem dX14_jobStatement_139 : decode cX14_jobStatement 139 = .ok (.getfield 336, 3) := by decide +kernel
theorem dX14_jobStatement_142 : decode cX14_jobStatement 142 = .ok (.iconst 2, 1) := by decide +kernel
theorem dX14_jobStatement_143 : decode cX14_jobStatement 143 = .ok (.if_icmp .ne 8, 3) := by decide +kernel
theorem dX14_jobStatement_146 : decode cX14_jobStatement 146 = .ok (.iload 4, 2) := by decide +kernel
theorem dX14_jobStatement_148 : decode cX14_jobStatement 148 = .ok (.goto 4, 3) := by decide +kernel
theorem dX14_jobStatement_151 : decode cX14_jobStatement 151 = .ok (.iload_n 3, 1) := by decide +kernel
theorem dX14_jobStatement_152 : decode cX14_jobStatement 152 = .ok (.istore 6, 2) := by decide +kernel
theorem dX14_jobStatement_154 : decode cX14_jobStatement 154 = .ok (.aload_n 0, 1) := by decide +kernel
theorem dX14_jobStatement_155 : decode cX14_jobStatement 155 = .ok (.iload_n 2, 1) := by decide +kernel
theorem dX14_jobStatement_156 : decode cX14_jobStatement 156 = .ok (.bipush 25, 2) := by decide +kernel
theorem dX14_jobStatement_158 : decode cX14_jobStatement 158 = .ok (.iload 6, 2) := by decide +kernel
theorem dX14_jobStatement_160 : decode cX14_jobStatement 160 = .ok (.iconst 0, 1) := by decide +kernel
theorem dX14_jobStatement_161 : decode cX14_jobStatement 161 = .ok (.invokevirtual 339, 3) := by decide +kernel
theorem dX14_jobStatement_164 : decode cX14_jobStatement 164 = .ok (.aload_n 0, 1) := by decide +kernel
theorem dX14_jobStatement_165 : decode cX14_jobStatement 165 = .ok (.getfield 118, 3) := by decide +kernel
theorem dX14_jobStatement_168 : decode cX14_jobStatement 168 = .ok (.sipush 400, 3) := by decide +kernel
theorem dX14_jobStatement_171 : decode cX14_jobStatement 171 = .ok (.iload_n 1, 1) := by decide +kernel
theorem dX14_jobStatement_172 : decode cX14_jobStatement 172 = .ok (.imul, 1) := by decide +kernel
theorem dX14_jobStatement_173 : decode cX14_jobStatement 173 = .ok (.bipush 100, 2) := by decide +kernel
theorem dX14_jobStatement_175 : decode cX14_jobStatement 175 = .ok (.iload_n 2, 1) := by decide +kernel
theorem dX14_jobStatement_176 : decode cX14_jobStatement 176 = .ok (.imul, 1) := by decide +kernel
theorem dX14_jobStatement_177 : decode cX14_jobStatement 177 = .ok (.iadd, 1) := by decide +kernel
theorem dX14_jobStatement_178 : decode cX14_jobStatement 178 = .ok (.iload 6, 2) := by decide +kernel
theorem dX14_jobStatement_180 : decode cX14_jobStatement 180 = .ok (.iadd, 1) := by decide +kernel
theorem dX14_jobStatement_181 : decode cX14_jobStatement 181 = .ok (.aload_n 0, 1) := by decide +kernel
theorem dX14_jobStatement_182 : decode cX14_jobStatement 182 = .ok (.getfield 112, 3) := by decide +kernel
theorem dX14_jobStatement_185 : decode cX14_jobStatement 185 = .ok (.iconst 4, 1) := by decide +kernel
theorem dX14_jobStatement_186 : decode cX14_jobStatement 186 = .ok (.iload_n 1, 1) := by decide +kernel
theorem dX14_jobStatement_187 : decode cX14_jobStatement 187 = .ok (.imul, 1) := by decide +kernel
theorem dX14_jobStatement_188 : decode cX14_jobStatement 188 = .ok (.iload_n 2, 1) := by decide +kernel
theorem dX14_jobStatement_189 : decode cX14_jobStatement 189 = .ok (.iadd, 1) := by decide +kernel
theorem dX14_jobStatement_190 : decode cX14_jobStatement 190 = .ok (.iaload, 1) := by decide +kernel
theorem dX14_jobStatement_191 : decode cX14_jobStatement 191 = .ok (.iastore, 1) := by decide +kernel
theorem dX14_jobStatement_192 : decode cX14_jobStatement 192 = .ok (.aload_n 0, 1) := by decide +kernel
theorem dX14_jobStatement_193 : decode cX14_jobStatement 193 = .ok (.dup, 1) := by decide +kernel
theorem dX14_jobStatement_194 : decode cX14_jobStatement 194 = .ok (.getfield 336, 3) := by decide +kernel
theorem dX14_jobStatement_197 : decode cX14_jobStatement 197 = .ok (.iconst 1, 1) := by decide +kernel
theorem dX14_jobStatement_198 : decode cX14_jobStatement 198 = .ok (.isub, 1) := by decide +kernel
theorem dX14_jobStatement_199 : decode cX14_jobStatement 199 = .ok (.putfield 336, 3) := by decide +kernel
theorem dX14_jobStatement_202 : decode cX14_jobStatement 202 = .ok (.aload_n 0, 1) := by decide +kernel
theorem dX14_jobStatement_203 : decode cX14_jobStatement 203 = .ok (.invokevirtual 286, 3) := by decide +kernel
theorem dX14_jobStatement_206 : decode cX14_jobStatement 206 = .ok (.goto (-113), 3) := by decide +kernel
theorem dX14_jobStatement_209 : decode cX14_jobStatement 209 = .ok (.aload_n 0, 1) := by decide +kernel
theorem dX14_jobStatement_210 : decode cX14_jobStatement 210 = .ok (.bipush 24, 2) := by decide +kernel
theorem dX14_jobStatement_212 : decode cX14_jobStatement 212 = .ok (.invokevirtual 321, 3) := by decide +kernel
theorem dX14_jobStatement_215 : decode cX14_jobStatement 215 = .ok (.ifCond .eq 135, 3) := by decide +kernel
theorem dX14_jobStatement_218 : decode cX14_jobStatement 218 = .ok (.aload_n 0, 1) := by decide +kernel
theorem dX14_jobStatement_219 : decode cX14_jobStatement 219 = .ok (.aload_n 0, 1) := by decide +kernel
theorem dX14_jobStatement_220 : decode cX14_jobStatement 220 = .ok (.getfield 333, 3) := by decide +kernel
theorem dX14_jobStatement_223 : decode cX14_jobStatement 223 = .ok (.bipush 40, 2) := by decide +kernel
theorem dX14_jobStatement_225 : decode cX14_jobStatement 225 = .ok (.if_icmp .ge 15, 3) := by decide +kernel
theorem dX14_jobStatement_228 : decode cX14_jobStatement 228 = .ok (.aload_n 0, 1) := by decide +kernel
theorem dX14_jobStatement_229 : decode cX14_jobStatement 229 = .ok (.getfield 336, 3) := by decide +kernel
theorem dX14_jobStatement_232 : decode cX14_jobStatement 232 = .ok (.iconst 3, 1) := by decide +kernel
theorem dX14_jobStatement_233 : decode cX14_jobStatement 233 = .ok (.if_icmp .ge 7, 3) := by decide +kernel
theorem dX14_jobStatement_236 : decode cX14_jobStatement 236 = .ok (.iconst 1, 1) := by decide +kernel
theorem dX14_jobStatement_237 : decode cX14_jobStatement 237 = .ok (.goto 4, 3) := by decide +kernel
theorem dX14_jobStatement_240 : decode cX14_jobStatement 240 = .ok (.iconst 0, 1) := by decide +kernel
theorem dX14_jobStatement_241 : decode cX14_jobStatement 241 = .ok (.putfield 282, 3) := by decide +kernel
theorem dX14_jobStatement_244 : decode cX14_jobStatement 244 = .ok (.aload_n 0, 1) := by decide +kernel
theorem dX14_jobStatement_245 : decode cX14_jobStatement 245 = .ok (.getfield 282, 3) := by decide +kernel
theorem dX14_jobStatement_248 : decode cX14_jobStatement 248 = .ok (.ifCond .eq (-155), 3) := by decide +kernel
theorem dX14_jobStatement_251 : decode cX14_jobStatement 251 = .ok (.aload_n 0, 1) := by decide +kernel
theorem dX14_jobStatement_252 : decode cX14_jobStatement 252 = .ok (.dup, 1) := by decide +kernel
theorem dX14_jobStatement_253 : decode cX14_jobStatement 253 = .ok (.getfield 336, 3) := by decide +kernel
theorem dX14_jobStatement_256 : decode cX14_jobStatement 256 = .ok (.iconst 1, 1) := by decide +kernel
theorem dX14_jobStatement_257 : decode cX14_jobStatement 257 = .ok (.iadd, 1) := by decide +kernel
theorem dX14_jobStatement_258 : decode cX14_jobStatement 258 = .ok (.putfield 336, 3) := by decide +kernel
theorem dX14_jobStatement_261 : decode cX14_jobStatement 261 = .ok (.aload_n 0, 1) := by decide +kernel
theorem dX14_jobStatement_262 : decode cX14_jobStatement 262 = .ok (.getfield 336, 3) := by decide +kernel
theorem dX14_jobStatement_265 : decode cX14_jobStatement 265 = .ok (.iconst 1, 1) := by decide +kernel
theorem dX14_jobStatement_266 : decode cX14_jobStatement 266 = .ok (.if_icmp .ne 17, 3) := by decide +kernel
theorem dX14_jobStatement_269 : decode cX14_jobStatement 269 = .ok (.aload_n 0, 1) := by decide +kernel
theorem dX14_jobStatement_270 : decode cX14_jobStatement 270 = .ok (.getfield 112, 3) := by decide +kernel
theorem dX14_jobStatement_273 : decode cX14_jobStatement 273 = .ok (.iconst 4, 1) := by decide +kernel
theorem dX14_jobStatement_274 : decode cX14_jobStatement 274 = .ok (.iload_n 1, 1) := by decide +kernel
theorem dX14_jobStatement_275 : decode cX14_jobStatement 275 = .ok (.imul, 1) := by decide +kernel
theorem dX14_jobStatement_276 : decode cX14_jobStatement 276 = .ok (.iload_n 2, 1) := by decide +kernel
theorem dX14_jobStatement_277 : decode cX14_jobStatement 277 = .ok (.iadd, 1) := by decide +kernel
theorem dX14_jobStatement_278 : decode cX14_jobStatement 278 = .ok (.iaload, 1) := by decide +kernel
theorem dX14_jobStatement_279 : decode cX14_jobStatement 279 = .ok (.istore_n 3, 1) := by decide +kernel
theorem dX14_jobStatement_280 : decode cX14_jobStatement 280 = .ok (.goto 38, 3) := by decide +kernel
theorem dX14_jobStatement_283 : decode cX14_jobStatement 283 = .ok (.aload_n 0, 1) := by decide +kernel
theorem dX14_jobStatement_284 : decode cX14_jobStatement 284 = .ok (.getfield 336, 3) := by decide +kernel
theorem dX14_jobStatement_287 : decode cX14_jobStatement 287 = .ok (.iconst 2, 1) := by decide +kernel
theorem dX14_jobStatement_288 : decode cX14_jobStatement 288 = .ok (.if_icmp .ne 18, 3) := by decide +kernel
theorem dX14_jobStatement_291 : decode cX14_jobStatement 291 = .ok (.aload_n 0, 1) := by decide +kernel
theorem dX14_jobStatement_292 : decode cX14_jobStatement 292 = .ok (.getfield 112, 3) := by decide +kernel
theorem dX14_jobStatement_295 : decode cX14_jobStatement 295 = .ok (.iconst 4, 1) := by decide +kernel
theorem dX14_jobStatement_296 : decode cX14_jobStatement 296 = .ok (.iload_n 1, 1) := by decide +kernel
theorem dX14_jobStatement_297 : decode cX14_jobStatement 297 = .ok (.imul, 1) := by decide +kernel
theorem dX14_jobStatement_298 : decode cX14_jobStatement 298 = .ok (.iload_n 2, 1) := by decide +kernel
theorem dX14_jobStatement_299 : decode cX14_jobStatement 299 = .ok (.iadd, 1) := by decide +kernel
theorem dX14_jobStatement_300 : decode cX14_jobStatement 300 = .ok (.iaload, 1) := by decide +kernel
theorem dX14_jobStatement_301 : decode cX14_jobStatement 301 = .ok (.istore 4, 2) := by decide +kernel
theorem dX14_jobStatement_303 : decode cX14_jobStatement 303 = .ok (.goto 15, 3) := by decide +kernel
theorem dX14_jobStatement_306 : decode cX14_jobStatement 306 = .ok (.aload_n 0, 1) := by decide +kernel
theorem dX14_jobStatement_307 : decode cX14_jobStatement 307 = .ok (.getfield 112, 3) := by decide +kernel
theorem dX14_jobStatement_310 : decode cX14_jobStatement 310 = .ok (.iconst 4, 1) := by decide +kernel
theorem dX14_jobStatement_311 : decode cX14_jobStatement 311 = .ok (.iload_n 1, 1) := by decide +kernel
theorem dX14_jobStatement_312 : decode cX14_jobStatement 312 = .ok (.imul, 1) := by decide +kernel
theorem dX14_jobStatement_313 : decode cX14_jobStatement 313 = .ok (.iload_n 2, 1) := by decide +kernel
theorem dX14_jobStatement_314 : decode cX14_jobStatement 314 = .ok (.iadd, 1) := by decide +kernel
theorem dX14_jobStatement_315 : decode cX14_jobStatement 315 = .ok (.iaload, 1) := by decide +kernel
theorem dX14_jobStatement_316 : decode cX14_jobStatement 316 = .ok (.istore 5, 2) := by decide +kernel
theorem dX14_jobStatement_318 : decode cX14_jobStatement 318 = .ok (.aload_n 0, 1) := by decide +kernel
theorem dX14_jobStatement_319 : decode cX14_jobStatement 319 = .ok (.dup, 1) := by decide +kernel
theorem dX14_jobStatement_320 : decode cX14_jobStatement 320 = .ok (.getfield 333, 3) := by decide +kernel
theorem dX14_jobStatement_323 : decode cX14_jobStatement 323 = .ok (.iconst 1, 1) := by decide +kernel
theorem dX14_jobStatement_324 : decode cX14_jobStatement 324 = .ok (.iadd, 1) := by decide +kernel
theorem dX14_jobStatement_325 : decode cX14_jobStatement 325 = .ok (.putfield 333, 3) := by decide +kernel
theorem dX14_jobStatement_328 : decode cX14_jobStatement 328 = .ok (.aload_n 0, 1) := by decide +kernel
theorem dX14_jobStatement_329 : decode cX14_jobStatement 329 = .ok (.iload_n 2, 1) := by decide +kernel
theorem dX14_jobStatement_330 : decode cX14_jobStatement 330 = .ok (.bipush 24, 2) := by decide +kernel
theorem dX14_jobStatement_332 : decode cX14_jobStatement 332 = .ok (.iconst 0, 1) := by decide +kernel
theorem dX14_jobStatement_333 : decode cX14_jobStatement 333 = .ok (.iconst 0, 1) := by decide +kernel
theorem dX14_jobStatement_334 : decode cX14_jobStatement 334 = .ok (.invokevirtual 339, 3) := by decide +kernel
theorem dX14_jobStatement_337 : decode cX14_jobStatement 337 = .ok (.aload_n 0, 1) := by decide +kernel
theorem dX14_jobStatement_338 : decode cX14_jobStatement 338 = .ok (.invokevirtual 286, 3) := by decide +kernel
theorem dX14_jobStatement_341 : decode cX14_jobStatement 341 = .ok (.aload_n 0, 1) := by decide +kernel
theorem dX14_jobStatement_342 : decode cX14_jobStatement 342 = .ok (.bipush 123, 2) := by decide +kernel
theorem dX14_jobStatement_344 : decode cX14_jobStatement 344 = .ok (.invokevirtual 314, 3) := by decide +kernel
theorem dX14_jobStatement_347 : decode cX14_jobStatement 347 = .ok (.goto (-254), 3) := by decide +kernel
theorem dX14_jobStatement_350 : decode cX14_jobStatement 350 = .ok (.aload_n 0, 1) := by decide +kernel
theorem dX14_jobStatement_351 : decode cX14_jobStatement 351 = .ok (.iload_n 2, 1) := by decide +kernel
theorem dX14_jobStatement_352 : decode cX14_jobStatement 352 = .ok (.invokevirtual 343, 3) := by decide +kernel
theorem dX14_jobStatement_355 : decode cX14_jobStatement 355 = .ok (.goto (-262), 3) := by decide +kernel
theorem dX14_jobStatement_358 : decode cX14_jobStatement 358 = .ok (.aload_n 0, 1) := by decide +kernel
theorem dX14_jobStatement_359 : decode cX14_jobStatement 359 = .ok (.bipush 125, 2) := by decide +kernel
theorem dX14_jobStatement_361 : decode cX14_jobStatement 361 = .ok (.invokevirtual 314, 3) := by decide +kernel
theorem dX14_jobStatement_364 : decode cX14_jobStatement 364 = .ok (.return_, 1) := by decide +kernel
theorem dX14_addOp_0 : decode cX14_addOp 0 = .ok (.aload_n 0, 1) := by decide +kernel
theorem dX14_addOp_1 : decode cX14_addOp 1 = .ok (.getfield 187, 3) := by decide +kernel
theorem dX14_addOp_4 : decode cX14_addOp 4 = .ok (.istore 5, 2) := by decide +kernel
theorem dX14_addOp_6 : decode cX14_addOp 6 = .ok (.bipush 100, 2) := by decide +kernel
theorem dX14_addOp_8 : decode cX14_addOp 8 = .ok (.iload_n 1, 1) := by decide +kernel
theorem dX14_addOp_9 : decode cX14_addOp 9 = .ok (.imul, 1) := by decide +kernel
theorem dX14_addOp_10 : decode cX14_addOp 10 = .ok (.aload_n 0, 1) := by decide +kernel
theorem dX14_addOp_11 : decode cX14_addOp 11 = .ok (.getfield 112, 3) := by decide +kernel
theorem dX14_addOp_14 : decode cX14_addOp 14 = .ok (.iconst 4, 1) := by decide +kernel
theorem dX14_addOp_15 : decode cX14_addOp 15 = .ok (.iload 5, 2) := by decide +kernel
theorem dX14_addOp_17 : decode cX14_addOp 17 = .ok (.imul, 1) := by decide +kernel
theorem dX14_addOp_18 : decode cX14_addOp 18 = .ok (.iload_n 1, 1) := by decide +kernel
theorem dX14_addOp_19 : decode cX14_addOp 19 = .ok (.iadd, 1) := by decide +kernel
theorem dX14_addOp_20 : decode cX14_addOp 20 = .ok (.iaload, 1) := by decide +kernel
theorem dX14_addOp_21 : decode cX14_addOp 21 = .ok (.iadd, 1) := by decide +kernel
theorem dX14_addOp_22 : decode cX14_addOp 22 = .ok (.istore 6, 2) := by decide +kernel
theorem dX14_addOp_24 : decode cX14_addOp 24 = .ok (.aload_n 0, 1) := by decide +kernel
theorem dX14_addOp_25 : decode cX14_addOp 25 = .ok (.getfield 115, 3) := by decide +kernel
theorem dX14_addOp_28 : decode cX14_addOp 28 = .ok (.sipush 400, 3) := by decide +kernel
theorem dX14_addOp_31 : decode cX14_addOp 31 = .ok (.iload 5, 2) := by decide +kernel
theorem dX14_addOp_33 : decode cX14_addOp 33 = .ok (.imul, 1) := by decide +kernel
theorem dX14_addOp_34 : decode cX14_addOp 34 = .ok (.iload 6, 2) := by decide +kernel
theorem dX14_addOp_36 : decode cX14_addOp 36 = .ok (.iadd, 1) := by decide +kernel
theorem dX14_addOp_37 : decode cX14_addOp 37 = .ok (.iload_n 2, 1) := by decide +kernel
theorem dX14_addOp_38 : decode cX14_addOp 38 = .ok (.iastore, 1) := by decide +kernel
theorem dX14_addOp_39 : decode cX14_addOp 39 = .ok (.aload_n 0, 1) := by decide +kernel
theorem dX14_addOp_40 : decode cX14_addOp 40 = .ok (.getfield 118, 3) := by decide +kernel
theorem dX14_addOp_43 : decode cX14_addOp 43 = .ok (.sipush 400, 3) := by decide +kernel
theorem dX14_addOp_46 : decode cX14_addOp 46 = .ok (.iload 5, 2) := by decide +kernel
theorem dX14_addOp_48 : decode cX14_addOp 48 = .ok (.imul, 1) := by decide +kernel
theorem dX14_addOp_49 : decode cX14_addOp 49 = .ok (.iload 6, 2) := by decide +kernel
theorem dX14_addOp_51 : decode cX14_addOp 51 = .ok (.iadd, 1) := by decide +kernel
theorem dX14_addOp_52 : decode cX14_addOp 52 = .ok (.iload_n 3, 1) := by decide +kernel
theorem dX14_addOp_53 : decode cX14_addOp 53 = .ok (.iastore, 1) := by decide +kernel
theorem dX14_addOp_54 : decode cX14_addOp 54 = .ok (.aload_n 0, 1) := by decide +kernel
theorem dX14_addOp_55 : decode cX14_addOp 55 = .ok (.getfield 121, 3) := by decide +kernel
theorem dX14_addOp_58 : decode cX14_addOp 58 = .ok (.sipush 400, 3) := by decide +kernel
theorem dX14_addOp_61 : decode cX14_addOp 61 = .ok (.iload 5, 2) := by decide +kernel
theorem dX14_addOp_63 : decode cX14_addOp 63 = .ok (.imul, 1) := by decide +kernel
theorem dX14_addOp_64 : decode cX14_addOp 64 = .ok (.iload 6, 2) := by decide +kernel
theorem dX14_addOp_66 : decode cX14_addOp 66 = .ok (.iadd, 1) := by decide +kernel
theorem dX14_addOp_67 : decode cX14_addOp 67 = .ok (.iload 4, 2) := by decide +kernel
theorem dX14_addOp_69 : decode cX14_addOp 69 = .ok (.iastore, 1) := by decide +kernel
theorem dX14_addOp_70 : decode cX14_addOp 70 = .ok (.aload_n 0, 1) := by decide +kernel
theorem dX14_addOp_71 : decode cX14_addOp 71 = .ok (.getfield 112, 3) := by decide +kernel
theorem dX14_addOp_74 : decode cX14_addOp 74 = .ok (.iconst 4, 1) := by decide +kernel
theorem dX14_addOp_75 : decode cX14_addOp 75 = .ok (.iload 5, 2) := by decide +kernel
theorem dX14_addOp_77 : decode cX14_addOp 77 = .ok (.imul, 1) := by decide +kernel
theorem dX14_addOp_78 : decode cX14_addOp 78 = .ok (.iload_n 1, 1) := by decide +kernel
theorem dX14_addOp_79 : decode cX14_addOp 79 = .ok (.iadd, 1) := by decide +kernel
theorem dX14_addOp_80 : decode cX14_addOp 80 = .ok (.dup2, 1) := by decide +kernel
theorem dX14_addOp_81 : decode cX14_addOp 81 = .ok (.iaload, 1) := by decide +kernel
theorem dX14_addOp_82 : decode cX14_addOp 82 = .ok (.iconst 1, 1) := by decide +kernel
theorem dX14_addOp_83 : decode cX14_addOp 83 = .ok (.iadd, 1) := by decide +kernel
theorem dX14_addOp_84 : decode cX14_addOp 84 = .ok (.iastore, 1) := by decide +kernel
theorem dX14_addOp_85 : decode cX14_addOp 85 = .ok (.return_, 1) := by decide +kernel
theorem dX14_op_0 : decode cX14_op 0 = .ok (.aload_n 0, 1) := by decide +kernel
theorem dX14_op_1 : decode cX14_op 1 = .ok (.getfield 265, 3) := by decide +kernel
theorem dX14_op_4 : decode cX14_op 4 = .ok (.iconst 1, 1) := by decide +kernel
theorem dX14_op_5 : decode cX14_op 5 = .ok (.if_icmp .ne 10, 3) := by decide +kernel
theorem dX14_op_8 : decode cX14_op 8 = .ok (.aload_n 0, 1) := by decide +kernel
theorem dX14_op_9 : decode cX14_op 9 = .ok (.getfield 262, 3) := by decide +kernel
theorem dX14_op_12 : decode cX14_op 12 = .ok (.goto 4, 3) := by decide +kernel
theorem dX14_op_15 : decode cX14_op 15 = .ok (.iconst 0, 1) := by decide +kernel
theorem dX14_op_16 : decode cX14_op 16 = .ok (.istore_n 2, 1) := by decide +kernel
theorem dX14_op_17 : decode cX14_op 17 = .ok (.iload_n 2, 1) := by decide +kernel
theorem dX14_op_18 : decode cX14_op 18 = .ok (.bipush 15, 2) := by decide +kernel
theorem dX14_op_20 : decode cX14_op 20 = .ok (.if_icmp .lt 18, 3) := by decide +kernel
theorem dX14_op_23 : decode cX14_op 23 = .ok (.iload_n 2, 1) := by decide +kernel
theorem dX14_op_24 : decode cX14_op 24 = .ok (.bipush 23, 2) := by decide +kernel
theorem dX14_op_26 : decode cX14_op 26 = .ok (.if_icmp .gt 12, 3) := by decide +kernel
theorem dX14_op_29 : decode cX14_op 29 = .ok (.aload_n 0, 1) := by decide +kernel
theorem dX14_op_30 : decode cX14_op 30 = .ok (.getfield 333, 3) := by decide +kernel
theorem dX14_op_33 : decode cX14_op 33 = .ok (.bipush 40, 2) := by decide +kernel
theorem dX14_op_35 : decode cX14_op 35 = .ok (.if_icmp .ne 9, 3) := by decide +kernel
theorem dX14_op_38 : decode cX14_op 38 = .ok (.aload_n 0, 1) := by decide +kernel
theorem dX14_op_39 : decode cX14_op 39 = .ok (.iconst 0, 1) := by decide +kernel
theorem dX14_op_40 : decode cX14_op 40 = .ok (.putfield 282, 3) := by decide +kernel
theorem dX14_op_43 : decode cX14_op 43 = .ok (.return_, 1) := by decide +kernel
theorem dX14_op_44 : decode cX14_op 44 = .ok (.aload_n 0, 1) := by decide +kernel
theorem dX14_op_45 : decode cX14_op 45 = .ok (.dup, 1) := by decide +kernel
theorem dX14_op_46 : decode cX14_op 46 = .ok (.getfield 333, 3) := by decide +kernel
theorem dX14_op_49 : decode cX14_op 49 = .ok (.iconst 1, 1) := by decide +kernel
theorem dX14_op_50 : decode cX14_op 50 = .ok (.iadd, 1) := by decide +kernel
theorem dX14_op_51 : decode cX14_op 51 = .ok (.putfield 333, 3) := by decide +kernel
theorem dX14_op_54 : decode cX14_op 54 = .ok (.aload_n 0, 1) := by decide +kernel
theorem dX14_op_55 : decode cX14_op 55 = .ok (.invokevirtual 286, 3) := by decide +kernel
theorem dX14_op_58 : decode cX14_op 58 = .ok (.iload_n 2, 1) := by decide +kernel
theorem dX14_op_59 : decode cX14_op 59 = .ok (.bipush 15, 2) := by decide +kernel
theorem dX14_op_61 : decode cX14_op 61 = .ok (.if_icmp .ne 17, 3) := by decide +kernel
theorem dX14_op_64 : decode cX14_op 64 = .ok (.aload_n 0, 1) := by decide +kernel
theorem dX14_op_65 : decode cX14_op 65 = .ok (.iload_n 1, 1) := by decide +kernel
theorem dX14_op_66 : decode cX14_op 66 = .ok (.iload_n 2, 1) := by decide +kernel
theorem dX14_op_67 : decode cX14_op 67 = .ok (.aload_n 0, 1) := by decide +kernel
theorem dX14_op_68 : decode cX14_op 68 = .ok (.invokevirtual 324, 3) := by decide +kernel
theorem dX14_op_71 : decode cX14_op 71 = .ok (.iconst 0, 1) := by decide +kernel
theorem dX14_op_72 : decode cX14_op 72 = .ok (.invokevirtual 339, 3) := by decide +kernel
theorem dX14_op_75 : decode cX14_op 75 = .ok (.goto 73, 3) := by decide +kernel
theorem dX14_op_78 : decode cX14_op 78 = .ok (.iload_n 2, 1) := by decide +kernel
theorem dX14_op_79 : decode cX14_op 79 = .ok (.bipush 16, 2) := by decide +kernel
theorem dX14_op_81 : decode cX14_op 81 = .ok (.if_icmp .ne 59, 3) := by decide +kernel
theorem dX14_op_84 : decode cX14_op 84 = .ok (.bipush 100, 2) := by decide +kernel
theorem dX14_op_86 : decode cX14_op 86 = .ok (.iload_n 1, 1) := by decide +kernel
theorem dX14_op_87 : decode cX14_op 87 = .ok (.imul, 1) := by decide +kernel
theorem dX14_op_88 : decode cX14_op 88 = .ok (.aload_n 0, 1) := by decide +kernel
theorem dX14_op_89 : decode cX14_op 89 = .ok (.getfield 112, 3) := by decide +kernel
theorem dX14_op_92 : decode cX14_op 92 = .ok (.iconst 4, 1) := by decide +kernel
theorem dX14_op_93 : decode cX14_op 93 = .ok (.aload_n 0, 1) := by decide +kernel
theorem dX14_op_94 : decode cX14_op 94 = .ok (.getfield 187, 3) := by decide +kernel
theorem dX14_op_97 : decode cX14_op 97 = .ok (.imul, 1) := by decide +kernel
theorem dX14_op_98 : decode cX14_op 98 = .ok (.iload_n 1, 1) := by decide +kernel
theorem dX14_op_99 : decode cX14_op 99 = .ok (.iadd, 1) := by decide +kernel
theorem dX14_op_100 : decode cX14_op 100 = .ok (.iaload, 1) := by decide +kernel
theorem dX14_op_101 : decode cX14_op 101 = .ok (.iadd, 1) := by decide +kernel
theorem dX14_op_102 : decode cX14_op 102 = .ok (.istore_n 3, 1) := by decide +kernel
theorem dX14_op_103 : decode cX14_op 103 = .ok (.aload_n 0, 1) := by decide +kernel
theorem dX14_op_104 : decode cX14_op 104 = .ok (.bipush 13, 2) := by decide +kernel
theorem dX14_op_106 : decode cX14_op 106 = .ok (.iload_n 3, 1) := by decide +kernel
theorem dX14_op_107 : decode cX14_op 107 = .ok (.iconst 0, 1) := by decide +kernel
theorem dX14_op_108 : decode cX14_op 108 = .ok (.invokevirtual 307, 3) := by decide +kernel
theorem dX14_op_111 : decode cX14_op 111 = .ok (.aload_n 0, 1) := by decide +kernel
theorem dX14_op_112 : decode cX14_op 112 = .ok (.invokevirtual 311, 3) := by decide +kernel
theorem dX14_op_115 : decode cX14_op 115 = .ok (.istore 4, 2) := by decide +kernel
theorem dX14_op_117 : decode cX14_op 117 = .ok (.aload_n 0, 1) := by decide +kernel
theorem dX14_op_118 : decode cX14_op 118 = .ok (.bipush 14, 2) := by decide +kernel
theorem dX14_op_120 : decode cX14_op 120 = .ok (.iload_n 3, 1) := by decide +kernel
theorem dX14_op_121 : decode cX14_op 121 = .ok (.iconst 0, 1) := by decide +kernel
theorem dX14_op_122 : decode cX14_op 122 = .ok (.invokevirtual 307, 3) := by decide +kernel
theorem dX14_op_125 : decode cX14_op 125 = .ok (.aload_n 0, 1) := by decide +kernel
theorem dX14_op_126 : decode cX14_op 126 = .ok (.iload_n 1, 1) := by decide +kernel
theorem dX14_op_127 : decode cX14_op 127 = .ok (.iload_n 2, 1) := by decide +kernel
theorem dX14_op_128 : decode cX14_op 128 = .ok (.iload 4, 2) := by decide +kernel
theorem dX14_op_130 : decode cX14_op 130 = .ok (.aload_n 0, 1) := by decide +kernel
theorem dX14_op_131 : decode cX14_op 131 = .ok (.invokevirtual 311, 3) := by decide +kernel
theorem dX14_op_134 : decode cX14_op 134 = .ok (.invokevirtual 339, 3) := by decide +kernel
theorem dX14_op_137 : decode cX14_op 137 = .ok (.goto 11, 3) := by decide +kernel
theorem dX14_op_140 : decode cX14_op 140 = .ok (.aload_n 0, 1) := by decide +kernel
theorem dX14_op_141 : decode cX14_op 141 = .ok (.iload_n 1, 1) := by decide +kernel
theorem dX14_op_142 : decode cX14_op 142 = .ok (.iload_n 2, 1) := by decide +kernel
theorem dX14_op_143 : decode cX14_op 143 = .ok (.iconst 0, 1) := by decide +kernel
theorem dX14_op_144 : decode cX14_op 144 = .ok (.iconst 0, 1) := by decide +kernel
theorem dX14_op_145 : decode cX14_op 145 = .ok (.invokevirtual 339, 3) := by decide +kernel
theorem dX14_op_148 : decode cX14_op 148 = .ok (.aload_n 0, 1) := by decide +kernel
theorem dX14_op_149 : decode cX14_op 149 = .ok (.bipush 59, 2) := by decide +kernel
theorem dX14_op_151 : decode cX14_op 151 = .ok (.invokevirtual 314, 3) := by decide +kernel
theorem dX14_op_154 : decode cX14_op 154 = .ok (.return_, 1) := by decide +kernel
theorem dX14_statement_0 : decode cX14_statement 0 = .ok (.aload_n 0, 1) := by decide +kernel
theorem dX14_statement_1 : decode cX14_statement 1 = .ok (.getfield 265, 3) := by decide +kernel
theorem dX14_statement_4 : decode cX14_statement 4 = .ok (.iconst 1, 1) := by decide +kernel
theorem dX14_statement_5 : decode cX14_statement 5 = .ok (.if_icmp .ne 10, 3) := by decide +kernel
theorem dX14_statement_8 : decode cX14_statement 8 = .ok (.aload_n 0, 1) := by decide +kernel
theorem dX14_statement_9 : decode cX14_statement 9 = .ok (.getfield 262, 3) := by decide +kernel
theorem dX14_statement_12 : decode cX14_statement 12 = .ok (.goto 4, 3) := by decide +kernel
theorem dX14_statement_15 : decode cX14_statement 15 = .ok (.iconst 0, 1) := by decide +kernel
theorem dX14_statement_16 : decode cX14_statement 16 = .ok (.istore_n 1, 1) := by decide +kernel
theorem dX14_statement_17 : decode cX14_statement 17 = .ok (.iload_n 1, 1) := by decide +kernel
theorem dX14_statement_18 : decode cX14_statement 18 = .ok (.iconst 1, 1) := by decide +kernel
theorem dX14_statement_19 : decode cX14_statement 19 = .ok (.if_icmp .ne 10, 3) := by decide +kernel
theorem dX14_statement_22 : decode cX14_statement 22 = .ok (.aload_n 0, 1) := by decide +kernel
theorem dX14_statement_23 : decode cX14_statement 23 = .ok (.invokevirtual 346, 3) := by decide +kernel
theorem dX14_statement_26 : decode cX14_statement 26 = .ok (.goto 60, 3) := by decide +kernel
theorem dX14_statement_29 : decode cX14_statement 29 = .ok (.iload_n 1, 1) := by decide +kernel
theorem dX14_statement_30 : decode cX14_statement 30 = .ok (.bipush 6, 2) := by decide +kernel
theorem dX14_statement_32 : decode cX14_statement 32 = .ok (.if_icmp .ne 10, 3) := by decide +kernel
theorem dX14_statement_35 : decode cX14_statement 35 = .ok (.aload_n 0, 1) := by decide +kernel
theorem dX14_statement_36 : decode cX14_statement 36 = .ok (.invokevirtual 349, 3) := by decide +kernel
theorem dX14_statement_39 : decode cX14_statement 39 = .ok (.goto 47, 3) := by decide +kernel
theorem dX14_statement_42 : decode cX14_statement 42 = .ok (.iload_n 1, 1) := by decide +kernel
theorem dX14_statement_43 : decode cX14_statement 43 = .ok (.bipush 12, 2) := by decide +kernel
theorem dX14_statement_45 : decode cX14_statement 45 = .ok (.if_icmp .ne 10, 3) := by decide +kernel
theorem dX14_statement_48 : decode cX14_statement 48 = .ok (.aload_n 0, 1) := by decide +kernel
theorem dX14_statement_49 : decode cX14_statement 49 = .ok (.invokevirtual 352, 3) := by decide +kernel
theorem dX14_statement_52 : decode cX14_statement 52 = .ok (.goto 34, 3) := by decide +kernel
theorem dX14_statement_55 : decode cX14_statement 55 = .ok (.iload_n 1, 1) := by decide +kernel
theorem dX14_statement_56 : decode cX14_statement 56 = .ok (.bipush 13, 2) := by decide +kernel
theorem dX14_statement_58 : decode cX14_statement 58 = .ok (.if_icmp .ne 10, 3) := by decide +kernel
theorem dX14_statement_61 : decode cX14_statement 61 = .ok (.aload_n 0, 1) := by decide +kernel
theorem dX14_statement_62 : decode cX14_statement 62 = .ok (.invokevirtual 355, 3) := by decide +kernel
theorem dX14_statement_65 : decode cX14_statement 65 = .ok (.goto 21, 3) := by decide +kernel
theorem dX14_statement_68 : decode cX14_statement 68 = .ok (.iload_n 1, 1) := by decide +kernel
theorem dX14_statement_69 : decode cX14_statement 69 = .ok (.bipush 14, 2) := by decide +kernel
theorem dX14_statement_71 : decode cX14_statement 71 = .ok (.if_icmp .ne 10, 3) := by decide +kernel
theorem dX14_statement_74 : decode cX14_statement 74 = .ok (.aload_n 0, 1) := by decide +kernel
theorem dX14_statement_75 : decode cX14_statement 75 = .ok (.invokevirtual 358, 3) := by decide +kernel
theorem dX14_statement_78 : decode cX14_statement 78 = .ok (.goto 8, 3) := by decide +kernel
theorem dX14_statement_81 : decode cX14_statement 81 = .ok (.aload_n 0, 1) := by decide +kernel
theorem dX14_statement_82 : decode cX14_statement 82 = .ok (.iconst 0, 1) := by decide +kernel
theorem dX14_statement_83 : decode cX14_statement 83 = .ok (.putfield 282, 3) := by decide +kernel
theorem dX14_statement_86 : decode cX14_statement 86 = .ok (.return_, 1) := by decide +kernel
theorem dX14_readInto_0 : decode cX14_readInto 0 = .ok (.aload_n 0, 1) := by decide +kernel
theorem dX14_readInto_1 : decode cX14_readInto 1 = .ok (.aload_n 1, 1) := by decide +kernel
theorem dX14_readInto_2 : decode cX14_readInto 2 = .ok (.putfield 137, 3) := by decide +kernel
theorem dX14_readInto_5 : decode cX14_readInto 5 = .ok (.aload_n 0, 1) := by decide +kernel
theorem dX14_readInto_6 : decode cX14_readInto 6 = .ok (.iload_n 2, 1) := by decide +kernel
theorem dX14_readInto_7 : decode cX14_readInto 7 = .ok (.putfield 361, 3) := by decide +kernel
theorem dX14_readInto_10 : decode cX14_readInto 10 = .ok (.aload_n 0, 1) := by decide +kernel
theorem dX14_readInto_11 : decode cX14_readInto 11 = .ok (.iload_n 2, 1) := by decide +kernel
theorem dX14_readInto_12 : decode cX14_readInto 12 = .ok (.putfield 190, 3) := by decide +kernel
theorem dX14_readInto_15 : decode cX14_readInto 15 = .ok (.aload_n 0, 1) := by decide +kernel
theorem dX14_readInto_16 : decode cX14_readInto 16 = .ok (.iload_n 2, 1) := by decide +kernel
theorem dX14_readInto_17 : decode cX14_readInto 17 = .ok (.iload_n 3, 1) := by decide +kernel
theorem dX14_readInto_18 : decode cX14_readInto 18 = .ok (.iadd, 1) := by decide +kernel
theorem dX14_readInto_19 : decode cX14_readInto 19 = .ok (.putfield 193, 3) := by decide +kernel
theorem dX14_readInto_22 : decode cX14_readInto 22 = .ok (.aload_n 0, 1) := by decide +kernel
theorem dX14_readInto_23 : decode cX14_readInto 23 = .ok (.iconst 1, 1) := by decide +kernel
theorem dX14_readInto_24 : decode cX14_readInto 24 = .ok (.putfield 256, 3) := by decide +kernel
theorem dX14_readInto_27 : decode cX14_readInto 27 = .ok (.aload_n 0, 1) := by decide +kernel
theorem dX14_readInto_28 : decode cX14_readInto 28 = .ok (.iconst 1, 1) := by decide +kernel
theorem dX14_readInto_29 : decode cX14_readInto 29 = .ok (.putfield 282, 3) := by decide +kernel
theorem dX14_readInto_32 : decode cX14_readInto 32 = .ok (.aload_n 0, 1) := by decide +kernel
theorem dX14_readInto_33 : decode cX14_readInto 33 = .ok (.iconst 0, 1) := by decide +kernel
theorem dX14_readInto_34 : decode cX14_readInto 34 = .ok (.putfield 293, 3) := by decide +kernel
theorem dX14_readInto_37 : decode cX14_readInto 37 = .ok (.aload_n 0, 1) := by decide +kernel
theorem dX14_readInto_38 : decode cX14_readInto 38 = .ok (.invokevirtual 364, 3) := by decide +kernel
theorem dX14_readInto_41 : decode cX14_readInto 41 = .ok (.aload_n 0, 1) := by decide +kernel
theorem dX14_readInto_42 : decode cX14_readInto 42 = .ok (.invokevirtual 286, 3) := by decide +kernel
theorem dX14_readInto_45 : decode cX14_readInto 45 = .ok (.aload_n 0, 1) := by decide +kernel
theorem dX14_readInto_46 : decode cX14_readInto 46 = .ok (.getfield 282, 3) := by decide +kernel
theorem dX14_readInto_49 : decode cX14_readInto 49 = .ok (.ifCond .eq 17, 3) := by decide +kernel
theorem dX14_readInto_52 : decode cX14_readInto 52 = .ok (.aload_n 0, 1) := by decide +kernel
theorem dX14_readInto_53 : decode cX14_readInto 53 = .ok (.getfield 265, 3) := by decide +kernel
theorem dX14_readInto_56 : decode cX14_readInto 56 = .ok (.ifCond .eq 10, 3) := by decide +kernel
theorem dX14_readInto_59 : decode cX14_readInto 59 = .ok (.aload_n 0, 1) := by decide +kernel
theorem dX14_readInto_60 : decode cX14_readInto 60 = .ok (.invokevirtual 367, 3) := by decide +kernel
theorem dX14_readInto_63 : decode cX14_readInto 63 = .ok (.goto (-18), 3) := by decide +kernel
theorem dX14_readInto_66 : decode cX14_readInto 66 = .ok (.aload_n 0, 1) := by decide +kernel
theorem dX14_readInto_67 : decode cX14_readInto 67 = .ok (.getfield 282, 3) := by decide +kernel
theorem dX14_readInto_70 : decode cX14_readInto 70 = .ok (.ifCond .eq 7, 3) := by decide +kernel
theorem dX14_readInto_73 : decode cX14_readInto 73 = .ok (.iconst 0, 1) := by decide +kernel
theorem dX14_readInto_74 : decode cX14_readInto 74 = .ok (.goto 7, 3) := by decide +kernel
theorem dX14_readInto_77 : decode cX14_readInto 77 = .ok (.aload_n 0, 1) := by decide +kernel
theorem dX14_readInto_78 : decode cX14_readInto 78 = .ok (.getfield 259, 3) := by decide +kernel
theorem dX14_readInto_81 : decode cX14_readInto 81 = .ok (.ireturn, 1) := by decide +kernel
theorem dX14_firstWrong_0 : decode cX14_firstWrong 0 = .ok (.iconst 0, 1) := by decide +kernel
theorem dX14_firstWrong_1 : decode cX14_firstWrong 1 = .ok (.istore_n 1, 1) := by decide +kernel
theorem dX14_firstWrong_2 : decode cX14_firstWrong 2 = .ok (.iload_n 1, 1) := by decide +kernel
theorem dX14_firstWrong_3 : decode cX14_firstWrong 3 = .ok (.aload_n 0, 1) := by decide +kernel
theorem dX14_firstWrong_4 : decode cX14_firstWrong 4 = .ok (.getfield 293, 3) := by decide +kernel
theorem dX14_firstWrong_7 : decode cX14_firstWrong 7 = .ok (.if_icmp .ge 41, 3) := by decide +kernel
theorem dX14_firstWrong_10 : decode cX14_firstWrong 10 = .ok (.aload_n 0, 1) := by decide +kernel
theorem dX14_firstWrong_11 : decode cX14_firstWrong 11 = .ok (.aload_n 0, 1) := by decide +kernel
theorem dX14_firstWrong_12 : decode cX14_firstWrong 12 = .ok (.getfield 140, 3) := by decide +kernel
theorem dX14_firstWrong_15 : decode cX14_firstWrong 15 = .ok (.iload_n 1, 1) := by decide +kernel
theorem dX14_firstWrong_16 : decode cX14_firstWrong 16 = .ok (.iaload, 1) := by decide +kernel
theorem dX14_firstWrong_17 : decode cX14_firstWrong 17 = .ok (.aload_n 0, 1) := by decide +kernel
theorem dX14_firstWrong_18 : decode cX14_firstWrong 18 = .ok (.getfield 146, 3) := by decide +kernel
theorem dX14_firstWrong_21 : decode cX14_firstWrong 21 = .ok (.iload_n 1, 1) := by decide +kernel
theorem dX14_firstWrong_22 : decode cX14_firstWrong 22 = .ok (.iaload, 1) := by decide +kernel
theorem dX14_firstWrong_23 : decode cX14_firstWrong 23 = .ok (.aload_n 0, 1) := by decide +kernel
theorem dX14_firstWrong_24 : decode cX14_firstWrong 24 = .ok (.getfield 149, 3) := by decide +kernel
theorem dX14_firstWrong_27 : decode cX14_firstWrong 27 = .ok (.iload_n 1, 1) := by decide +kernel
theorem dX14_firstWrong_28 : decode cX14_firstWrong 28 = .ok (.iaload, 1) := by decide +kernel
theorem dX14_firstWrong_29 : decode cX14_firstWrong 29 = .ok (.invokevirtual 370, 3) := by decide +kernel
theorem dX14_firstWrong_32 : decode cX14_firstWrong 32 = .ok (.ifCond .eq 10, 3) := by decide +kernel
theorem dX14_firstWrong_35 : decode cX14_firstWrong 35 = .ok (.aload_n 0, 1) := by decide +kernel
theorem dX14_firstWrong_36 : decode cX14_firstWrong 36 = .ok (.getfield 143, 3) := by decide +kernel
theorem dX14_firstWrong_39 : decode cX14_firstWrong 39 = .ok (.iload_n 1, 1) := by decide +kernel
theorem dX14_firstWrong_40 : decode cX14_firstWrong 40 = .ok (.iaload, 1) := by decide +kernel
theorem dX14_firstWrong_41 : decode cX14_firstWrong 41 = .ok (.ireturn, 1) := by decide +kernel
theorem dX14_firstWrong_42 : decode cX14_firstWrong 42 = .ok (.iinc 1 1, 3) := by decide +kernel
theorem dX14_firstWrong_45 : decode cX14_firstWrong 45 = .ok (.goto (-43), 3) := by decide +kernel
theorem dX14_firstWrong_48 : decode cX14_firstWrong 48 = .ok (.iconst 0, 1) := by decide +kernel
theorem dX14_firstWrong_49 : decode cX14_firstWrong 49 = .ok (.ireturn, 1) := by decide +kernel
theorem dX14_isWrong_0 : decode cX14_isWrong 0 = .ok (.aload_n 0, 1) := by decide +kernel
theorem dX14_isWrong_1 : decode cX14_isWrong 1 = .ok (.getfield 187, 3) := by decide +kernel
theorem dX14_isWrong_4 : decode cX14_isWrong 4 = .ok (.istore 4, 2) := by decide +kernel
theorem dX14_isWrong_6 : decode cX14_isWrong 6 = .ok (.iload_n 1, 1) := by decide +kernel
theorem dX14_isWrong_7 : decode cX14_isWrong 7 = .ok (.tableswitch 611 1 13 #[65, 93, 121, 180, 220, 255, 326, 387, 448, 483, 511, 555, 582], 65) := by decide +kernel
theorem dX14_isWrong_72 : decode cX14_isWrong 72 = .ok (.aload_n 0, 1) := by decide +kernel
theorem dX14_isWrong_73 : decode cX14_isWrong 73 = .ok (.iload 4, 2) := by decide +kernel
theorem dX14_isWrong_75 : decode cX14_isWrong 75 = .ok (.aload_n 0, 1) := by decide +kernel
theorem dX14_isWrong_76 : decode cX14_isWrong 76 = .ok (.getfield 37, 3) := by decide +kernel
theorem dX14_isWrong_79 : decode cX14_isWrong 79 = .ok (.bipush 12, 2) := by decide +kernel
theorem dX14_isWrong_81 : decode cX14_isWrong 81 = .ok (.iload 4, 2) := by decide +kernel
theorem dX14_isWrong_83 : decode cX14_isWrong 83 = .ok (.imul, 1) := by decide +kernel
theorem dX14_isWrong_84 : decode cX14_isWrong 84 = .ok (.iload_n 2, 1) := by decide +kernel
theorem dX14_isWrong_85 : decode cX14_isWrong 85 = .ok (.iadd, 1) := by decide +kernel
theorem dX14_isWrong_86 : decode cX14_isWrong 86 = .ok (.iaload, 1) := by decide +kernel
theorem dX14_isWrong_87 : decode cX14_isWrong 87 = .ok (.invokevirtual 374, 3) := by decide +kernel
theorem dX14_isWrong_90 : decode cX14_isWrong 90 = .ok (.iload_n 2, 1) := by decide +kernel
theorem dX14_isWrong_91 : decode cX14_isWrong 91 = .ok (.if_icmp .ge 7, 3) := by decide +kernel
theorem dX14_isWrong_94 : decode cX14_isWrong 94 = .ok (.iconst 1, 1) := by decide +kernel
theorem dX14_isWrong_95 : decode cX14_isWrong 95 = .ok (.goto 4, 3) := by decide +kernel
theorem dX14_isWrong_98 : decode cX14_isWrong 98 = .ok (.iconst 0, 1) := by decide +kernel
theorem dX14_isWrong_99 : decode cX14_isWrong 99 = .ok (.ireturn, 1) := by decide +kernel
theorem dX14_isWrong_100 : decode cX14_isWrong 100 = .ok (.aload_n 0, 1) := by decide +kernel
theorem dX14_isWrong_101 : decode cX14_isWrong 101 = .ok (.iload 4, 2) := by decide +kernel
theorem dX14_isWrong_103 : decode cX14_isWrong 103 = .ok (.aload_n 0, 1) := by decide +kernel
theorem dX14_isWrong_104 : decode cX14_isWrong 104 = .ok (.getfield 64, 3) := by decide +kernel
theorem dX14_isWrong_107 : decode cX14_isWrong 107 = .ok (.bipush 6, 2) := by decide +kernel
theorem dX14_isWrong_109 : decode cX14_isWrong 109 = .ok (.iload 4, 2) := by decide +kernel
theorem dX14_isWrong_111 : decode cX14_isWrong 111 = .ok (.imul, 1) := by decide +kernel
theorem dX14_isWrong_112 : decode cX14_isWrong 112 = .ok (.iload_n 2, 1) := by decide +kernel
theorem dX14_isWrong_113 : decode cX14_isWrong 113 = .ok (.iadd, 1) := by decide +kernel
theorem dX14_isWrong_114 : decode cX14_isWrong 114 = .ok (.iaload, 1) := by decide +kernel
theorem dX14_isWrong_115 : decode cX14_isWrong 115 = .ok (.invokevirtual 377, 3) := by decide +kernel
theorem dX14_isWrong_118 : decode cX14_isWrong 118 = .ok (.iload_n 2, 1) := by decide +kernel
theorem dX14_isWrong_119 : decode cX14_isWrong 119 = .ok (.if_icmp .ge 7, 3) := by decide +kernel
theorem dX14_isWrong_122 : decode cX14_isWrong 122 = .ok (.iconst 1, 1) := by decide +kernel
theorem dX14_isWrong_123 : decode cX14_isWrong 123 = .ok (.goto 4, 3) := by decide +kernel
theorem dX14_isWrong_126 : decode cX14_isWrong 126 = .ok (.iconst 0, 1) := by decide +kernel
theorem dX14_isWrong_127 : decode cX14_isWrong 127 = .ok (.ireturn, 1) := by decide +kernel
theorem dX14_isWrong_128 : decode cX14_isWrong 128 = .ok (.iconst 0, 1) := by decide +kernel
theorem dX14_isWrong_129 : decode cX14_isWrong 129 = .ok (.istore 5, 2) := by decide +kernel
theorem dX14_isWrong_131 : decode cX14_isWrong 131 = .ok (.iconst 0, 1) := by decide +kernel
theorem dX14_isWrong_132 : decode cX14_isWrong 132 = .ok (.istore 6, 2) := by decide +kernel
theorem dX14_isWrong_134 : decode cX14_isWrong 134 = .ok (.iload 6, 2) := by decide +kernel
theorem dX14_isWrong_136 : decode cX14_isWrong 136 = .ok (.iload_n 2, 1) := by decide +kernel
theorem dX14_isWrong_137 : decode cX14_isWrong 137 = .ok (.if_icmp .ge 47, 3) := by decide +kernel
theorem dX14_isWrong_140 : decode cX14_isWrong 140 = .ok (.iload 5, 2) := by decide +kernel
theorem dX14_isWrong_142 : decode cX14_isWrong 142 = .ok (.ifCond .ne 29, 3) := by decide +kernel
theorem dX14_isWrong_145 : decode cX14_isWrong 145 = .ok (.aload_n 0, 1) := by decide +kernel
theorem dX14_isWrong_146 : decode cX14_isWrong 146 = .ok (.getfield 109, 3) := by decide +kernel
theorem dX14_isWrong_149 : decode cX14_isWrong 149 = .ok (.iconst 4, 1) := by decide +kernel
theorem dX14_isWrong_150 : decode cX14_isWrong 150 = .ok (.iload 4, 2) := by decide +kernel
theorem dX14_isWrong_152 : decode cX14_isWrong 152 = .ok (.imul, 1) := by decide +kernel
theorem dX14_isWrong_153 : decode cX14_isWrong 153 = .ok (.iload 6, 2) := by decide +kernel
theorem dX14_isWrong_155 : decode cX14_isWrong 155 = .ok (.iadd, 1) := by decide +kernel
theorem dX14_isWrong_156 : decode cX14_isWrong 156 = .ok (.iaload, 1) := by decide +kernel
theorem dX14_isWrong_157 : decode cX14_isWrong 157 = .ok (.aload_n 0, 1) := by decide +kernel
theorem dX14_isWrong_158 : decode cX14_isWrong 158 = .ok (.getfield 109, 3) := by decide +kernel
theorem dX14_isWrong_161 : decode cX14_isWrong 161 = .ok (.iconst 4, 1) := by decide +kernel
theorem dX14_isWrong_162 : decode cX14_isWrong 162 = .ok (.iload 4, 2) := by decide +kernel
theorem dX14_isWrong_164 : decode cX14_isWrong 164 = .ok (.imul, 1) := by decide +kernel
theorem dX14_isWrong_165 : decode cX14_isWrong 165 = .ok (.iload_n 2, 1) := by decide +kernel
theorem dX14_isWrong_166 : decode cX14_isWrong 166 = .ok (.iadd, 1) := by decide +kernel
theorem dX14_isWrong_167 : decode cX14_isWrong 167 = .ok (.iaload, 1) := by decide +kernel
theorem dX14_isWrong_168 : decode cX14_isWrong 168 = .ok (.if_icmp .ne 7, 3) := by decide +kernel
theorem dX14_isWrong_171 : decode cX14_isWrong 171 = .ok (.iconst 1, 1) := by decide +kernel
theorem dX14_isWrong_172 : decode cX14_isWrong 172 = .ok (.goto 4, 3) := by decide +kernel
theorem dX14_isWrong_175 : decode cX14_isWrong 175 = .ok (.iconst 0, 1) := by decide +kernel
theorem dX14_isWrong_176 : decode cX14_isWrong 176 = .ok (.istore 5, 2) := by decide +kernel
theorem dX14_isWrong_178 : decode cX14_isWrong 178 = .ok (.iinc 6 1, 3) := by decide +kernel
theorem dX14_isWrong_181 : decode cX14_isWrong 181 = .ok (.goto (-47), 3) := by decide +kernel
theorem dX14_isWrong_184 : decode cX14_isWrong 184 = .ok (.iload 5, 2) := by decide +kernel
theorem dX14_isWrong_186 : decode cX14_isWrong 186 = .ok (.ireturn, 1) := by decide +kernel
theorem dX14_isWrong_187 : decode cX14_isWrong 187 = .ok (.aload_n 0, 1) := by decide +kernel
theorem dX14_isWrong_188 : decode cX14_isWrong 188 = .ok (.iload 4, 2) := by decide +kernel
theorem dX14_isWrong_190 : decode cX14_isWrong 190 = .ok (.aload_n 0, 1) := by decide +kernel
theorem dX14_isWrong_191 : decode cX14_isWrong 191 = .ok (.getfield 70, 3) := by decide +kernel
theorem dX14_isWrong_194 : decode cX14_isWrong 194 = .ok (.bipush 16, 2) := by decide +kernel
theorem dX14_isWrong_196 : decode cX14_isWrong 196 = .ok (.iload 4, 2) := by decide +kernel
theorem dX14_isWrong_198 : decode cX14_isWrong 198 = .ok (.imul, 1) := by decide +kernel
theorem dX14_isWrong_199 : decode cX14_isWrong 199 = .ok (.iload_n 2, 1) := by decide +kernel
theorem dX14_isWrong_200 : decode cX14_isWrong 200 = .ok (.iadd, 1) := by decide +kernel
theorem dX14_isWrong_201 : decode cX14_isWrong 201 = .ok (.iaload, 1) := by decide +kernel
theorem dX14_isWrong_202 : decode cX14_isWrong 202 = .ok (.aload_n 0, 1) := by decide +kernel
theorem dX14_isWrong_203 : decode cX14_isWrong 203 = .ok (.getfield 76, 3) := by decide +kernel
theorem dX14_isWrong_206 : decode cX14_isWrong 206 = .ok (.bipush 16, 2) := by decide +kernel
theorem dX14_isWrong_208 : decode cX14_isWrong 208 = .ok (.iload 4, 2) := by decide +kernel
theorem dX14_isWrong_210 : decode cX14_isWrong 210 = .ok (.imul, 1) := by decide +kernel
theorem dX14_isWrong_211 : decode cX14_isWrong 211 = .ok (.iload_n 2, 1) := by decide +kernel
theorem dX14_isWrong_212 : decode cX14_isWrong 212 = .ok (.iadd, 1) := by decide +kernel
theorem dX14_isWrong_213 : decode cX14_isWrong 213 = .ok (.iaload, 1) := by decide +kernel
theorem dX14_isWrong_214 : decode cX14_isWrong 214 = .ok (.invokevirtual 380, 3) := by decide +kernel
theorem dX14_isWrong_217 : decode cX14_isWrong 217 = .ok (.iload_n 2, 1) := by decide +kernel
theorem dX14_isWrong_218 : decode cX14_isWrong 218 = .ok (.if_icmp .ge 7, 3) := by decide +kernel
theorem dX14_isWrong_221 : decode cX14_isWrong 221 = .ok (.iconst 1, 1) := by decide +kernel
theorem dX14_isWrong_222 : decode cX14_isWrong 222 = .ok (.goto 4, 3) := by decide +kernel
theorem dX14_isWrong_225 : decode cX14_isWrong 225 = .ok (.iconst 0, 1) := by decide +kernel
theorem dX14_isWrong_226 : decode cX14_isWrong 226 = .ok (.ireturn, 1) := by decide +kernel
theorem dX14_isWrong_227 : decode cX14_isWrong 227 = .ok (.aload_n 0, 1) := by decide +kernel
theorem dX14_isWrong_228 : decode cX14_isWrong 228 = .ok (.iload 4, 2) := by decide +kernel
theorem dX14_isWrong_230 : decode cX14_isWrong 230 = .ok (.iload_n 2, 1) := by decide +kernel
theorem dX14_isWrong_231 : decode cX14_isWrong 231 = .ok (.aload_n 0, 1) := by decide +kernel
theorem dX14_isWrong_232 : decode cX14_isWrong 232 = .ok (.getfield 82, 3) := by decide +kernel
theorem dX14_isWrong_235 : decode cX14_isWrong 235 = .ok (.sipush 128, 3) := by decide +kernel
theorem dX14_isWrong_238 : decode cX14_isWrong 238 = .ok (.iload 4, 2) := by decide +kernel
theorem dX14_isWrong_240 : decode cX14_isWrong 240 = .ok (.imul, 1) := by decide +kernel
theorem dX14_isWrong_241 : decode cX14_isWrong 241 = .ok (.bipush 8, 2) := by decide +kernel
theorem dX14_isWrong_243 : decode cX14_isWrong 243 = .ok (.iload_n 2, 1) := by decide +kernel
theorem dX14_isWrong_244 : decode cX14_isWrong 244 = .ok (.imul, 1) := by decide +kernel
theorem dX14_isWrong_245 : decode cX14_isWrong 245 = .ok (.iadd, 1) := by decide +kernel
theorem dX14_isWrong_246 : decode cX14_isWrong 246 = .ok (.iload_n 3, 1) := by decide +kernel
theorem dX14_isWrong_247 : decode cX14_isWrong 247 = .ok (.iadd, 1) := by decide +kernel
theorem dX14_isWrong_248 : decode cX14_isWrong 248 = .ok (.iaload, 1) := by decide +kernel
theorem dX14_isWrong_249 : decode cX14_isWrong 249 = .ok (.invokevirtual 384, 3) := by decide +kernel
theorem dX14_isWrong_252 : decode cX14_isWrong 252 = .ok (.iload_n 3, 1) := by decide +kernel
theorem dX14_isWrong_253 : decode cX14_isWrong 253 = .ok (.if_icmp .ge 7, 3) := by decide +kernel
theorem dX14_isWrong_256 : decode cX14_isWrong 256 = .ok (.iconst 1, 1) := by decide +kernel
theorem dX14_isWrong_257 : decode cX14_isWrong 257 = .ok (.goto 4, 3) := by decide +kernel
theorem dX14_isWrong_260 : decode cX14_isWrong 260 = .ok (.iconst 0, 1) := by decide +kernel
theorem dX14_isWrong_261 : decode cX14_isWrong 261 = .ok (.ireturn, 1) := by decide +kernel
theorem dX14_isWrong_262 : decode cX14_isWrong 262 = .ok (.iconst 0, 1) := by decide +kernel
theorem dX14_isWrong_263 : decode cX14_isWrong 263 = .ok (.istore 6, 2) := by decide +kernel
theorem dX14_isWrong_265 : decode cX14_isWrong 265 = .ok (.iconst 0, 1) := by decide +kernel
theorem dX14_isWrong_266 : decode cX14_isWrong 266 = .ok (.istore 7, 2) := by decide +kernel
theorem dX14_isWrong_268 : decode cX14_isWrong 268 = .ok (.iload 7, 2) := by decide +kernel
theorem dX14_isWrong_270 : decode cX14_isWrong 270 = .ok (.iload_n 3, 1) := by decide +kernel
theorem dX14_isWrong_271 : decode cX14_isWrong 271 = .ok (.if_icmp .ge 59, 3) := by decide +kernel
theorem dX14_isWrong_274 : decode cX14_isWrong 274 = .ok (.iload 6, 2) := by decide +kernel
theorem dX14_isWrong_276 : decode cX14_isWrong 276 = .ok (.ifCond .ne 41, 3) := by decide +kernel
theorem dX14_isWrong_279 : decode cX14_isWrong 279 = .ok (.aload_n 0, 1) := by decide +kernel
theorem dX14_isWrong_280 : decode cX14_isWrong 280 = .ok (.getfield 58, 3) := by decide +kernel
theorem dX14_isWrong_283 : decode cX14_isWrong 283 = .ok (.bipush 96, 2) := by decide +kernel
theorem dX14_isWrong_285 : decode cX14_isWrong 285 = .ok (.iload 4, 2) := by decide +kernel
theorem dX14_isWrong_287 : decode cX14_isWrong 287 = .ok (.imul, 1) := by decide +kernel
theorem dX14_isWrong_288 : decode cX14_isWrong 288 = .ok (.bipush 8, 2) := by decide +kernel
theorem dX14_isWrong_290 : decode cX14_isWrong 290 = .ok (.iload_n 2, 1) := by decide +kernel
theorem dX14_isWrong_291 : decode cX14_isWrong 291 = .ok (.imul, 1) := by decide +kernel
theorem dX14_isWrong_292 : decode cX14_isWrong 292 = .ok (.iadd, 1) := by decide +kernel
theorem dX14_isWrong_293 : decode cX14_isWrong 293 = .ok (.iload 7, 2) := by decide +kernel
theorem dX14_isWrong_295 : decode cX14_isWrong 295 = .ok (.iadd, 1) := by decide +kernel
theorem dX14_isWrong_296 : decode cX14_isWrong 296 = .ok (.iaload, 1) := by decide +kernel
theorem dX14_isWrong_297 : decode cX14_isWrong 297 = .ok (.aload_n 0, 1) := by decide +kernel
theorem dX14_isWrong_298 : decode cX14_isWrong 298 = .ok (.getfield 58, 3) := by decide +kernel
theorem dX14_isWrong_301 : decode cX14_isWrong 301 = .ok (.bipush 96, 2) := by decide +kernel
theorem dX14_isWrong_303 : decode cX14_isWrong 303 = .ok (.iload 4, 2) := by decide +kernel
theorem dX14_isWrong_305 : decode cX14_isWrong 305 = .ok (.imul, 1) := by decide +kernel
theorem dX14_isWrong_306 : decode cX14_isWrong 306 = .ok (.bipush 8, 2) := by decide +kernel
theorem dX14_isWrong_308 : decode cX14_isWrong 308 = .ok (.iload_n 2, 1) := by decide +kernel
theorem dX14_isWrong_309 : decode cX14_isWrong 309 = .ok (.imul, 1) := by decide +kernel
theorem dX14_isWrong_310 : decode cX14_isWrong 310 = .ok (.iadd, 1) := by decide +kernel
theorem dX14_isWrong_311 : decode cX14_isWrong 311 = .ok (.iload_n 3, 1) := by decide +kernel
theorem dX14_isWrong_312 : decode cX14_isWrong 312 = .ok (.iadd, 1) := by decide +kernel
theorem dX14_isWrong_313 : decode cX14_isWrong 313 = .ok (.iaload, 1) := by decide +kernel
theorem dX14_isWrong_314 : decode cX14_isWrong 314 = .ok (.if_icmp .ne 7, 3) := by decide +kernel
theorem dX14_isWrong_317 : decode cX14_isWrong 317 = .ok (.iconst 1, 1) := by decide +kernel
theorem dX14_isWrong_318 : decode cX14_isWrong 318 = .ok (.goto 4, 3) := by decide +kernel
theorem dX14_isWrong_321 : decode cX14_isWrong 321 = .ok (.iconst 0, 1) := by decide +kernel
theorem dX14_isWrong_322 : decode cX14_isWrong 322 = .ok (.istore 6, 2) := by decide +kernel
theorem dX14_isWrong_324 : decode cX14_isWrong 324 = .ok (.iinc 7 1, 3) := by decide +kernel
theorem dX14_isWrong_327 : decode cX14_isWrong 327 = .ok (.goto (-59), 3) := by decide +kernel
theorem dX14_isWrong_330 : decode cX14_isWrong 330 = .ok (.iload 6, 2) := by decide +kernel
theorem dX14_isWrong_332 : decode cX14_isWrong 332 = .ok (.ireturn, 1) := by decide +kernel
theorem dX14_isWrong_333 : decode cX14_isWrong 333 = .ok (.iconst 0, 1) := by decide +kernel
theorem dX14_isWrong_334 : decode cX14_isWrong 334 = .ok (.istore 7, 2) := by decide +kernel
theorem dX14_isWrong_336 : decode cX14_isWrong 336 = .ok (.iconst 0, 1) := by decide +kernel
theorem dX14_isWrong_337 : decode cX14_isWrong 337 = .ok (.istore 8, 2) := by decide +kernel
theorem dX14_isWrong_339 : decode cX14_isWrong 339 = .ok (.iload 8, 2) := by decide +kernel
theorem dX14_isWrong_341 : decode cX14_isWrong 341 = .ok (.iload_n 2, 1) := by decide +kernel
theorem dX14_isWrong_342 : decode cX14_isWrong 342 = .ok (.if_icmp .ge 49, 3) := by decide +kernel
theorem dX14_isWrong_345 : decode cX14_isWrong 345 = .ok (.iload 7, 2) := by decide +kernel
theorem dX14_isWrong_347 : decode cX14_isWrong 347 = .ok (.ifCond .ne 31, 3) := by decide +kernel
theorem dX14_isWrong_350 : decode cX14_isWrong 350 = .ok (.aload_n 0, 1) := by decide +kernel
theorem dX14_isWrong_351 : decode cX14_isWrong 351 = .ok (.getfield 97, 3) := by decide +kernel
theorem dX14_isWrong_354 : decode cX14_isWrong 354 = .ok (.bipush 12, 2) := by decide +kernel
theorem dX14_isWrong_356 : decode cX14_isWrong 356 = .ok (.iload 4, 2) := by decide +kernel
theorem dX14_isWrong_358 : decode cX14_isWrong 358 = .ok (.imul, 1) := by decide +kernel
theorem dX14_isWrong_359 : decode cX14_isWrong 359 = .ok (.iload 8, 2) := by decide +kernel
theorem dX14_isWrong_361 : decode cX14_isWrong 361 = .ok (.iadd, 1) := by decide +kernel
theorem dX14_isWrong_362 : decode cX14_isWrong 362 = .ok (.iaload, 1) := by decide +kernel
theorem dX14_isWrong_363 : decode cX14_isWrong 363 = .ok (.aload_n 0, 1) := by decide +kernel
theorem dX14_isWrong_364 : decode cX14_isWrong 364 = .ok (.getfield 97, 3) := by decide +kernel
theorem dX14_isWrong_367 : decode cX14_isWrong 367 = .ok (.bipush 12, 2) := by decide +kernel
theorem dX14_isWrong_369 : decode cX14_isWrong 369 = .ok (.iload 4, 2) := by decide +kernel
theorem dX14_isWrong_371 : decode cX14_isWrong 371 = .ok (.imul, 1) := by decide +kernel
theorem dX14_isWrong_372 : decode cX14_isWrong 372 = .ok (.iload_n 2, 1) := by decide +kernel
theorem dX14_isWrong_373 : decode cX14_isWrong 373 = .ok (.iadd, 1) := by decide +kernel
theorem dX14_isWrong_374 : decode cX14_isWrong 374 = .ok (.iaload, 1) := by decide +kernel
theorem dX14_isWrong_375 : decode cX14_isWrong 375 = .ok (.if_icmp .ne 7, 3) := by decide +kernel
theorem dX14_isWrong_378 : decode cX14_isWrong 378 = .ok (.iconst 1, 1) := by decide +kernel
theorem dX14_isWrong_379 : decode cX14_isWrong 379 = .ok (.goto 4, 3) := by decide +kernel
theorem dX14_isWrong_382 : decode cX14_isWrong 382 = .ok (.iconst 0, 1) := by decide +kernel
theorem dX14_isWrong_383 : decode cX14_isWrong 383 = .ok (.istore 7, 2) := by decide +kernel
theorem dX14_isWrong_385 : decode cX14_isWrong 385 = .ok (.iinc 8 1, 3) := by decide +kernel
theorem dX14_isWrong_388 : decode cX14_isWrong 388 = .ok (.goto (-49), 3) := by decide +kernel
theorem dX14_isWrong_391 : decode cX14_isWrong 391 = .ok (.iload 7, 2) := by decide +kernel
theorem dX14_isWrong_393 : decode cX14_isWrong 393 = .ok (.ireturn, 1) := by decide +kernel
theorem dX14_isWrong_394 : decode cX14_isWrong 394 = .ok (.iconst 0, 1) := by decide +kernel
theorem dX14_isWrong_395 : decode cX14_isWrong 395 = .ok (.istore 8, 2) := by decide +kernel
theorem dX14_isWrong_397 : decode cX14_isWrong 397 = .ok (.iconst 0, 1) := by decide +kernel
theorem dX14_isWrong_398 : decode cX14_isWrong 398 = .ok (.istore 9, 2) := by decide +kernel
theorem dX14_isWrong_400 : decode cX14_isWrong 400 = .ok (.iload 9, 2) := by decide +kernel
theorem dX14_isWrong_402 : decode cX14_isWrong 402 = .ok (.iload_n 2, 1) := by decide +kernel
theorem dX14_isWrong_403 : decode cX14_isWrong 403 = .ok (.if_icmp .ge 49, 3) := by decide +kernel
theorem dX14_isWrong_406 : decode cX14_isWrong 406 = .ok (.iload 8, 2) := by decide +kernel
theorem dX14_isWrong_408 : decode cX14_isWrong 408 = .ok (.ifCond .ne 31, 3) := by decide +kernel
theorem dX14_isWrong_411 : decode cX14_isWrong 411 = .ok (.aload_n 0, 1) := by decide +kernel
theorem dX14_isWrong_412 : decode cX14_isWrong 412 = .ok (.getfield 106, 3) := by decide +kernel
theorem dX14_isWrong_415 : decode cX14_isWrong 415 = .ok (.bipush 6, 2) := by decide +kernel
theorem dX14_isWrong_417 : decode cX14_isWrong 417 = .ok (.iload 4, 2) := by decide +kernel
theorem dX14_isWrong_419 : decode cX14_isWrong 419 = .ok (.imul, 1) := by decide +kernel
theorem dX14_isWrong_420 : decode cX14_isWrong 420 = .ok (.iload 9, 2) := by decide +kernel
theorem dX14_isWrong_422 : decode cX14_isWrong 422 = .ok (.iadd, 1) := by decide +kernel
theorem dX14_isWrong_423 : decode cX14_isWrong 423 = .ok (.iaload, 1) := by decide +kernel
theorem dX14_isWrong_424 : decode cX14_isWrong 424 = .ok (.aload_n 0, 1) := by decide +kernel
theorem dX14_isWrong_425 : decode cX14_isWrong 425 = .ok (.getfield 106, 3) := by decide +kernel
theorem dX14_isWrong_428 : decode cX14_isWrong 428 = .ok (.bipush 6, 2) := by decide +kernel
theorem dX14_isWrong_430 : decode cX14_isWrong 430 = .ok (.iload 4, 2) := by decide +kernel
theorem dX14_isWrong_432 : decode cX14_isWrong 432 = .ok (.imul, 1) := by decide +kernel
theorem dX14_isWrong_433 : decode cX14_isWrong 433 = .ok (.iload_n 2, 1) := by decide +kernel
theorem dX14_isWrong_434 : decode cX14_isWrong 434 = .ok (.iadd, 1) := by decide +kernel
theorem dX14_isWrong_435 : decode cX14_isWrong 435 = .ok (.iaload, 1) := by decide +kernel
theorem dX14_isWrong_436 : decode cX14_isWrong 436 = .ok (.if_icmp .ne 7, 3) := by decide +kernel
theorem dX14_isWrong_439 : decode cX14_isWrong 439 = .ok (.iconst 1, 1) := by decide +kernel
theorem dX14_isWrong_440 : decode cX14_isWrong 440 = .ok (.goto 4, 3) := by decide +kernel
theorem dX14_isWrong_443 : decode cX14_isWrong 443 = .ok (.iconst 0, 1) := by decide +kernel
theorem dX14_isWrong_444 : decode cX14_isWrong 444 = .ok (.istore 8, 2) := by decide +kernel
theorem dX14_isWrong_446 : decode cX14_isWrong 446 = .ok (.iinc 9 1, 3) := by decide +kernel
theorem dX14_isWrong_449 : decode cX14_isWrong 449 = .ok (.goto (-49), 3) := by decide +kernel
theorem dX14_isWrong_452 : decode cX14_isWrong 452 = .ok (.iload 8, 2) := by decide +kernel
theorem dX14_isWrong_454 : decode cX14_isWrong 454 = .ok (.ireturn, 1) := by decide +kernel
theorem dX14_isWrong_455 : decode cX14_isWrong 455 = .ok (.aload_n 0, 1) := by decide +kernel
theorem dX14_isWrong_456 : decode cX14_isWrong 456 = .ok (.iload 4, 2) := by decide +kernel
theorem dX14_isWrong_458 : decode cX14_isWrong 458 = .ok (.aload_n 0, 1) := by decide +kernel
theorem dX14_isWrong_459 : decode cX14_isWrong 459 = .ok (.getfield 67, 3) := by decide +kernel
theorem dX14_isWrong_462 : decode cX14_isWrong 462 = .ok (.bipush 6, 2) := by decide +kernel
theorem dX14_isWrong_464 : decode cX14_isWrong 464 = .ok (.iload 4, 2) := by decide +kernel
theorem dX14_isWrong_466 : decode cX14_isWrong 466 = .ok (.imul, 1) := by decide +kernel
theorem dX14_isWrong_467 : decode cX14_isWrong 467 = .ok (.iload_n 2, 1) := by decide +kernel
theorem dX14_isWrong_468 : decode cX14_isWrong 468 = .ok (.iadd, 1) := by decide +kernel
theorem dX14_isWrong_469 : decode cX14_isWrong 469 = .ok (.iaload, 1) := by decide +kernel
theorem dX14_isWrong_470 : decode cX14_isWrong 470 = .ok (.invokevirtual 377, 3) := by decide +kernel
theorem dX14_isWrong_473 : decode cX14_isWrong 473 = .ok (.ifCond .lt 11, 3) := by decide +kernel
theorem dX14_isWrong_476 : decode cX14_isWrong 476 = .ok (.aload_n 0, 1) := by decide +kernel
theorem dX14_isWrong_477 : decode cX14_isWrong 477 = .ok (.iload_n 2, 1) := by decide +kernel
theorem dX14_isWrong_478 : decode cX14_isWrong 478 = .ok (.invokevirtual 387, 3) := by decide +kernel
theorem dX14_isWrong_481 : decode cX14_isWrong 481 = .ok (.ifCond .eq 7, 3) := by decide +kernel
theorem dX14_isWrong_484 : decode cX14_isWrong 484 = .ok (.iconst 1, 1) := by decide +kernel
theorem dX14_isWrong_485 : decode cX14_isWrong 485 = .ok (.goto 4, 3) := by decide +kernel
theorem dX14_isWrong_488 : decode cX14_isWrong 488 = .ok (.iconst 0, 1) := by decide +kernel
theorem dX14_isWrong_489 : decode cX14_isWrong 489 = .ok (.ireturn, 1) := by decide +kernel
theorem dX14_isWrong_490 : decode cX14_isWrong 490 = .ok (.aload_n 0, 1) := by decide +kernel
theorem dX14_isWrong_491 : decode cX14_isWrong 491 = .ok (.iload 4, 2) := by decide +kernel
theorem dX14_isWrong_493 : decode cX14_isWrong 493 = .ok (.aload_n 0, 1) := by decide +kernel
theorem dX14_isWrong_494 : decode cX14_isWrong 494 = .ok (.getfield 85, 3) := by decide +kernel
theorem dX14_isWrong_497 : decode cX14_isWrong 497 = .ok (.sipush 128, 3) := by decide +kernel
theorem dX14_isWrong_500 : decode cX14_isWrong 500 = .ok (.iload 4, 2) := by decide +kernel
theorem dX14_isWrong_502 : decode cX14_isWrong 502 = .ok (.imul, 1) := by decide +kernel
theorem dX14_isWrong_503 : decode cX14_isWrong 503 = .ok (.iload_n 2, 1) := by decide +kernel
theorem dX14_isWrong_504 : decode cX14_isWrong 504 = .ok (.iadd, 1) := by decide +kernel
theorem dX14_isWrong_505 : decode cX14_isWrong 505 = .ok (.iaload, 1) := by decide +kernel
theorem dX14_isWrong_506 : decode cX14_isWrong 506 = .ok (.invokevirtual 374, 3) := by decide +kernel
theorem dX14_isWrong_509 : decode cX14_isWrong 509 = .ok (.ifCond .ge 7, 3) := by decide +kernel
theorem dX14_isWrong_512 : decode cX14_isWrong 512 = .ok (.iconst 1, 1) := by decide +kernel
theorem dX14_isWrong_513 : decode cX14_isWrong 513 = .ok (.goto 4, 3) := by decide +kernel
theorem dX14_isWrong_516 : decode cX14_isWrong 516 = .ok (.iconst 0, 1) := by decide +kernel
theorem dX14_isWrong_517 : decode cX14_isWrong 517 = .ok (.ireturn, 1) := by decide +kernel
theorem dX14_isWrong_518 : decode cX14_isWrong 518 = .ok (.aload_n 0, 1) := by decide +kernel
theorem dX14_isWrong_519 : decode cX14_isWrong 519 = .ok (.iload 4, 2) := by decide +kernel
theorem dX14_isWrong_521 : decode cX14_isWrong 521 = .ok (.iload_n 2, 1) := by decide +kernel
theorem dX14_isWrong_522 : decode cX14_isWrong 522 = .ok (.aload_n 0, 1) := by decide +kernel
theorem dX14_isWrong_523 : decode cX14_isWrong 523 = .ok (.getfield 91, 3) := by decide +kernel
theorem dX14_isWrong_526 : decode cX14_isWrong 526 = .ok (.sipush 128, 3) := by decide +kernel
theorem dX14_isWrong_529 : decode cX14_isWrong 529 = .ok (.iload 4, 2) := by decide +kernel
theorem dX14_isWrong_531 : decode cX14_isWrong 531 = .ok (.imul, 1) := by decide +kernel
theorem dX14_isWrong_532 : decode cX14_isWrong 532 = .ok (.iload_n 3, 1) := by decide +kernel
theorem dX14_isWrong_533 : decode cX14_isWrong 533 = .ok (.iadd, 1) := by decide +kernel
theorem dX14_isWrong_534 : decode cX14_isWrong 534 = .ok (.iaload, 1) := by decide +kernel
theorem dX14_isWrong_535 : decode cX14_isWrong 535 = .ok (.invokevirtual 384, 3) := by decide +kernel
theorem dX14_isWrong_538 : decode cX14_isWrong 538 = .ok (.istore 9, 2) := by decide +kernel
theorem dX14_isWrong_540 : decode cX14_isWrong 540 = .ok (.iload 9, 2) := by decide +kernel
theorem dX14_isWrong_542 : decode cX14_isWrong 542 = .ok (.ifCond .lt 14, 3) := by decide +kernel
theorem dX14_isWrong_545 : decode cX14_isWrong 545 = .ok (.bipush 8, 2) := by decide +kernel
theorem dX14_isWrong_547 : decode cX14_isWrong 547 = .ok (.iload_n 2, 1) := by decide +kernel
theorem dX14_isWrong_548 : decode cX14_isWrong 548 = .ok (.imul, 1) := by decide +kernel
theorem dX14_isWrong_549 : decode cX14_isWrong 549 = .ok (.iload 9, 2) := by decide +kernel
theorem dX14_isWrong_551 : decode cX14_isWrong 551 = .ok (.iadd, 1) := by decide +kernel
theorem dX14_isWrong_552 : decode cX14_isWrong 552 = .ok (.iload_n 3, 1) := by decide +kernel
theorem dX14_isWrong_553 : decode cX14_isWrong 553 = .ok (.if_icmp .lt 7, 3) := by decide +kernel
theorem dX14_isWrong_556 : decode cX14_isWrong 556 = .ok (.iconst 1, 1) := by decide +kernel
theorem dX14_isWrong_557 : decode cX14_isWrong 557 = .ok (.goto 4, 3) := by decide +kernel
theorem dX14_isWrong_560 : decode cX14_isWrong 560 = .ok (.iconst 0, 1) := by decide +kernel
theorem dX14_isWrong_561 : decode cX14_isWrong 561 = .ok (.ireturn, 1) := by decide +kernel
theorem dX14_isWrong_562 : decode cX14_isWrong 562 = .ok (.aload_n 0, 1) := by decide +kernel
theorem dX14_isWrong_563 : decode cX14_isWrong 563 = .ok (.iload 4, 2) := by decide +kernel
theorem dX14_isWrong_565 : decode cX14_isWrong 565 = .ok (.aload_n 0, 1) := by decide +kernel
theorem dX14_isWrong_566 : decode cX14_isWrong 566 = .ok (.getfield 103, 3) := by decide +kernel
theorem dX14_isWrong_569 : decode cX14_isWrong 569 = .ok (.bipush 6, 2) := by decide +kernel
theorem dX14_isWrong_571 : decode cX14_isWrong 571 = .ok (.iload 4, 2) := by decide +kernel
theorem dX14_isWrong_573 : decode cX14_isWrong 573 = .ok (.imul, 1) := by decide +kernel
theorem dX14_isWrong_574 : decode cX14_isWrong 574 = .ok (.iload_n 2, 1) := by decide +kernel
theorem dX14_isWrong_575 : decode cX14_isWrong 575 = .ok (.iadd, 1) := by decide +kernel
theorem dX14_isWrong_576 : decode cX14_isWrong 576 = .ok (.iaload, 1) := by decide +kernel
theorem dX14_isWrong_577 : decode cX14_isWrong 577 = .ok (.invokevirtual 377, 3) := by decide +kernel
theorem dX14_isWrong_580 : decode cX14_isWrong 580 = .ok (.ifCond .ge 7, 3) := by decide +kernel
theorem dX14_isWrong_583 : decode cX14_isWrong 583 = .ok (.iconst 1, 1) := by decide +kernel
theorem dX14_isWrong_584 : decode cX14_isWrong 584 = .ok (.goto 4, 3) := by decide +kernel
theorem dX14_isWrong_587 : decode cX14_isWrong 587 = .ok (.iconst 0, 1) := by decide +kernel
theorem dX14_isWrong_588 : decode cX14_isWrong 588 = .ok (.ireturn, 1) := by decide +kernel
theorem dX14_isWrong_589 : decode cX14_isWrong 589 = .ok (.aload_n 0, 1) := by decide +kernel
theorem dX14_isWrong_590 : decode cX14_isWrong 590 = .ok (.iload 4, 2) := by decide +kernel
theorem dX14_isWrong_592 : decode cX14_isWrong 592 = .ok (.aload_n 0, 1) := by decide +kernel
theorem dX14_isWrong_593 : decode cX14_isWrong 593 = .ok (.getfield 118, 3) := by decide +kernel
theorem dX14_isWrong_596 : decode cX14_isWrong 596 = .ok (.sipush 400, 3) := by decide +kernel
theorem dX14_isWrong_599 : decode cX14_isWrong 599 = .ok (.iload 4, 2) := by decide +kernel
theorem dX14_isWrong_601 : decode cX14_isWrong 601 = .ok (.imul, 1) := by decide +kernel
theorem dX14_isWrong_602 : decode cX14_isWrong 602 = .ok (.iload_n 2, 1) := by decide +kernel
theorem dX14_isWrong_603 : decode cX14_isWrong 603 = .ok (.iadd, 1) := by decide +kernel
theorem dX14_isWrong_604 : decode cX14_isWrong 604 = .ok (.iaload, 1) := by decide +kernel
theorem dX14_isWrong_605 : decode cX14_isWrong 605 = .ok (.iconst (-1), 1) := by decide +kernel
theorem dX14_isWrong_606 : decode cX14_isWrong 606 = .ok (.invokevirtual 380, 3) := by decide +kernel
theorem dX14_isWrong_609 : decode cX14_isWrong 609 = .ok (.ifCond .ge 7, 3) := by decide +kernel
theorem dX14_isWrong_612 : decode cX14_isWrong 612 = .ok (.iconst 1, 1) := by decide +kernel
theorem dX14_isWrong_613 : decode cX14_isWrong 613 = .ok (.goto 4, 3) := by decide +kernel
theorem dX14_isWrong_616 : decode cX14_isWrong 616 = .ok (.iconst 0, 1) := by decide +kernel
theorem dX14_isWrong_617 : decode cX14_isWrong 617 = .ok (.ireturn, 1) := by decide +kernel
theorem dX14_isWrong_618 : decode cX14_isWrong 618 = .ok (.aload_n 0, 1) := by decide +kernel
theorem dX14_isWrong_619 : decode cX14_isWrong 619 = .ok (.iload 4, 2) := by decide +kernel
theorem dX14_isWrong_621 : decode cX14_isWrong 621 = .ok (.aload_n 0, 1) := by decide +kernel
theorem dX14_isWrong_622 : decode cX14_isWrong 622 = .ok (.getfield 118, 3) := by decide +kernel
theorem dX14_isWrong_625 : decode cX14_isWrong 625 = .ok (.sipush 400, 3) := by decide +kernel
theorem dX14_isWrong_628 : decode cX14_isWrong 628 = .ok (.iload 4, 2) := by decide +kernel
theorem dX14_isWrong_630 : decode cX14_isWrong 630 = .ok (.imul, 1) := by decide +kernel
theorem dX14_isWrong_631 : decode cX14_isWrong 631 = .ok (.iload_n 2, 1) := by decide +kernel
theorem dX14_isWrong_632 : decode cX14_isWrong 632 = .ok (.iadd, 1) := by decide +kernel
theorem dX14_isWrong_633 : decode cX14_isWrong 633 = .ok (.iaload, 1) := by decide +kernel
theorem dX14_isWrong_634 : decode cX14_isWrong 634 = .ok (.iconst (-1), 1) := by decide +kernel
theorem dX14_isWrong_635 : decode cX14_isWrong 635 = .ok (.invokevirtual 380, 3) := by decide +kernel
theorem dX14_isWrong_638 : decode cX14_isWrong 638 = .ok (.istore 10, 2) := by decide +kernel
theorem dX14_isWrong_640 : decode cX14_isWrong 640 = .ok (.iload 10, 2) := by decide +kernel
theorem dX14_isWrong_642 : decode cX14_isWrong 642 = .ok (.ifCond .lt 27, 3) := by decide +kernel
theorem dX14_isWrong_645 : decode cX14_isWrong 645 = .ok (.aload_n 0, 1) := by decide +kernel
theorem dX14_isWrong_646 : decode cX14_isWrong 646 = .ok (.iload 4, 2) := by decide +kernel
theorem dX14_isWrong_648 : decode cX14_isWrong 648 = .ok (.iload 10, 2) := by decide +kernel
theorem dX14_isWrong_650 : decode cX14_isWrong 650 = .ok (.aload_n 0, 1) := by decide +kernel
theorem dX14_isWrong_651 : decode cX14_isWrong 651 = .ok (.getfield 121, 3) := by decide +kernel
theorem dX14_isWrong_654 : decode cX14_isWrong 654 = .ok (.sipush 400, 3) := by decide +kernel
theorem dX14_isWrong_657 : decode cX14_isWrong 657 = .ok (.iload 4, 2) := by decide +kernel
theorem dX14_isWrong_659 : decode cX14_isWrong 659 = .ok (.imul, 1) := by decide +kernel
theorem dX14_isWrong_660 : decode cX14_isWrong 660 = .ok (.iload_n 2, 1) := by decide +kernel
theorem dX14_isWrong_661 : decode cX14_isWrong 661 = .ok (.iadd, 1) := by decide +kernel
theorem dX14_isWrong_662 : decode cX14_isWrong 662 = .ok (.iaload, 1) := by decide +kernel
theorem dX14_isWrong_663 : decode cX14_isWrong 663 = .ok (.invokevirtual 384, 3) := by decide +kernel
theorem dX14_isWrong_666 : decode cX14_isWrong 666 = .ok (.ifCond .ge 7, 3) := by decide +kernel
theorem dX14_isWrong_669 : decode cX14_isWrong 669 = .ok (.iconst 1, 1) := by decide +kernel
theorem dX14_isWrong_670 : decode cX14_isWrong 670 = .ok (.goto 4, 3) := by decide +kernel
theorem dX14_isWrong_673 : decode cX14_isWrong 673 = .ok (.iconst 0, 1) := by decide +kernel
theorem dX14_isWrong_674 : decode cX14_isWrong 674 = .ok (.ireturn, 1) := by decide +kernel
theorem dX14_isRing_0 : decode cX14_isRing 0 = .ok (.aload_n 0, 1) := by decide +kernel
theorem dX14_isRing_1 : decode cX14_isRing 1 = .ok (.iconst 0, 1) := by decide +kernel
theorem dX14_isRing_2 : decode cX14_isRing 2 = .ok (.putfield 390, 3) := by decide +kernel
theorem dX14_isRing_5 : decode cX14_isRing 5 = .ok (.iload_n 1, 1) := by decide +kernel
theorem dX14_isRing_6 : decode cX14_isRing 6 = .ok (.istore_n 2, 1) := by decide +kernel
theorem dX14_isRing_7 : decode cX14_isRing 7 = .ok (.aload_n 0, 1) := by decide +kernel
theorem dX14_isRing_8 : decode cX14_isRing 8 = .ok (.getfield 390, 3) := by decide +kernel
theorem dX14_isRing_11 : decode cX14_isRing 11 = .ok (.bipush 6, 2) := by decide +kernel
theorem dX14_isRing_13 : decode cX14_isRing 13 = .ok (.if_icmp .ge 83, 3) := by decide +kernel
theorem dX14_isRing_16 : decode cX14_isRing 16 = .ok (.aload_n 0, 1) := by decide +kernel
theorem dX14_isRing_17 : decode cX14_isRing 17 = .ok (.getfield 152, 3) := by decide +kernel
theorem dX14_isRing_20 : decode cX14_isRing 20 = .ok (.aload_n 0, 1) := by decide +kernel
theorem dX14_isRing_21 : decode cX14_isRing 21 = .ok (.getfield 390, 3) := by decide +kernel
theorem dX14_isRing_24 : decode cX14_isRing 24 = .ok (.iload_n 2, 1) := by decide +kernel
theorem dX14_isRing_25 : decode cX14_isRing 25 = .ok (.iconst 1, 1) := by decide +kernel
theorem dX14_isRing_26 : decode cX14_isRing 26 = .ok (.iadd, 1) := by decide +kernel
theorem dX14_isRing_27 : decode cX14_isRing 27 = .ok (.iastore, 1) := by decide +kernel
theorem dX14_isRing_28 : decode cX14_isRing 28 = .ok (.aload_n 0, 1) := by decide +kernel
theorem dX14_isRing_29 : decode cX14_isRing 29 = .ok (.dup, 1) := by decide +kernel
theorem dX14_isRing_30 : decode cX14_isRing 30 = .ok (.getfield 390, 3) := by decide +kernel
theorem dX14_isRing_33 : decode cX14_isRing 33 = .ok (.iconst 1, 1) := by decide +kernel
theorem dX14_isRing_34 : decode cX14_isRing 34 = .ok (.iadd, 1) := by decide +kernel
theorem dX14_isRing_35 : decode cX14_isRing 35 = .ok (.putfield 390, 3) := by decide +kernel
theorem dX14_isRing_38 : decode cX14_isRing 38 = .ok (.aload_n 0, 1) := by decide +kernel
theorem dX14_isRing_39 : decode cX14_isRing 39 = .ok (.getfield 67, 3) := by decide +kernel
theorem dX14_isRing_42 : decode cX14_isRing 42 = .ok (.bipush 6, 2) := by decide +kernel
theorem dX14_isRing_44 : decode cX14_isRing 44 = .ok (.aload_n 0, 1) := by decide +kernel
theorem dX14_isRing_45 : decode cX14_isRing 45 = .ok (.getfield 187, 3) := by decide +kernel
theorem dX14_isRing_48 : decode cX14_isRing 48 = .ok (.imul, 1) := by decide +kernel
theorem dX14_isRing_49 : decode cX14_isRing 49 = .ok (.iload_n 2, 1) := by decide +kernel
theorem dX14_isRing_50 : decode cX14_isRing 50 = .ok (.iadd, 1) := by decide +kernel
theorem dX14_isRing_51 : decode cX14_isRing 51 = .ok (.iaload, 1) := by decide +kernel
theorem dX14_isRing_52 : decode cX14_isRing 52 = .ok (.ifCond .ne 7, 3) := by decide +kernel
theorem dX14_isRing_55 : decode cX14_isRing 55 = .ok (.iconst (-1), 1) := by decide +kernel
theorem dX14_isRing_56 : decode cX14_isRing 56 = .ok (.goto 25, 3) := by decide +kernel
theorem dX14_isRing_59 : decode cX14_isRing 59 = .ok (.aload_n 0, 1) := by decide +kernel
theorem dX14_isRing_60 : decode cX14_isRing 60 = .ok (.aload_n 0, 1) := by decide +kernel
theorem dX14_isRing_61 : decode cX14_isRing 61 = .ok (.getfield 187, 3) := by decide +kernel
theorem dX14_isRing_64 : decode cX14_isRing 64 = .ok (.aload_n 0, 1) := by decide +kernel
theorem dX14_isRing_65 : decode cX14_isRing 65 = .ok (.getfield 67, 3) := by decide +kernel
theorem dX14_isRing_68 : decode cX14_isRing 68 = .ok (.bipush 6, 2) := by decide +kernel
theorem dX14_isRing_70 : decode cX14_isRing 70 = .ok (.aload_n 0, 1) := by decide +kernel
theorem dX14_isRing_71 : decode cX14_isRing 71 = .ok (.getfield 187, 3) := by decide +kernel
theorem dX14_isRing_74 : decode cX14_isRing 74 = .ok (.imul, 1) := by decide +kernel
theorem dX14_isRing_75 : decode cX14_isRing 75 = .ok (.iload_n 2, 1) := by decide +kernel
theorem dX14_isRing_76 : decode cX14_isRing 76 = .ok (.iadd, 1) := by decide +kernel
theorem dX14_isRing_77 : decode cX14_isRing 77 = .ok (.iaload, 1) := by decide +kernel
theorem dX14_isRing_78 : decode cX14_isRing 78 = .ok (.invokevirtual 377, 3) := by decide +kernel
theorem dX14_isRing_81 : decode cX14_isRing 81 = .ok (.istore_n 2, 1) := by decide +kernel
theorem dX14_isRing_82 : decode cX14_isRing 82 = .ok (.iload_n 2, 1) := by decide +kernel
theorem dX14_isRing_83 : decode cX14_isRing 83 = .ok (.iload_n 1, 1) := by decide +kernel
theorem dX14_isRing_84 : decode cX14_isRing 84 = .ok (.if_icmp .ne 5, 3) := by decide +kernel
theorem dX14_isRing_87 : decode cX14_isRing 87 = .ok (.iconst 1, 1) := by decide +kernel
theorem dX14_isRing_88 : decode cX14_isRing 88 = .ok (.ireturn, 1) := by decide +kernel
theorem dX14_isRing_89 : decode cX14_isRing 89 = .ok (.iload_n 2, 1) := by decide +kernel
theorem dX14_isRing_90 : decode cX14_isRing 90 = .ok (.ifCond .ge (-83), 3) := by decide +kernel
theorem dX14_isRing_93 : decode cX14_isRing 93 = .ok (.goto 3, 3) := by decide +kernel
theorem dX14_isRing_96 : decode cX14_isRing 96 = .ok (.aload_n 0, 1) := by decide +kernel
theorem dX14_isRing_97 : decode cX14_isRing 97 = .ok (.iconst 0, 1) := by decide +kernel
theorem dX14_isRing_98 : decode cX14_isRing 98 = .ok (.putfield 390, 3) := by decide +kernel
theorem dX14_isRing_101 : decode cX14_isRing 101 = .ok (.iconst 0, 1) := by decide +kernel
theorem dX14_isRing_102 : decode cX14_isRing 102 = .ok (.ireturn, 1) := by decide +kernel
theorem dX14_read_0 : decode cX14_read 0 = .ok (.aload_n 0, 1) := by decide +kernel
theorem dX14_read_1 : decode cX14_read 1 = .ok (.iconst 0, 1) := by decide +kernel
theorem dX14_read_2 : decode cX14_read 2 = .ok (.putfield 181, 3) := by decide +kernel
theorem dX14_read_5 : decode cX14_read 5 = .ok (.aload_n 0, 1) := by decide +kernel
theorem dX14_read_6 : decode cX14_read 6 = .ok (.iconst 0, 1) := by decide +kernel
theorem dX14_read_7 : decode cX14_read 7 = .ok (.putfield 390, 3) := by decide +kernel
theorem dX14_read_10 : decode cX14_read 10 = .ok (.aload_n 0, 1) := by decide +kernel
theorem dX14_read_11 : decode cX14_read 11 = .ok (.getfield 184, 3) := by decide +kernel
theorem dX14_read_14 : decode cX14_read 14 = .ok (.istore_n 1, 1) := by decide +kernel
theorem dX14_read_15 : decode cX14_read 15 = .ok (.aload_n 0, 1) := by decide +kernel
theorem dX14_read_16 : decode cX14_read 16 = .ok (.iconst 0, 1) := by decide +kernel
theorem dX14_read_17 : decode cX14_read 17 = .ok (.putfield 184, 3) := by decide +kernel
theorem dX14_read_20 : decode cX14_read 20 = .ok (.aload_n 0, 1) := by decide +kernel
theorem dX14_read_21 : decode cX14_read 21 = .ok (.aload_n 0, 1) := by decide +kernel
theorem dX14_read_22 : decode cX14_read 22 = .ok (.getfield 124, 3) := by decide +kernel
theorem dX14_read_25 : decode cX14_read 25 = .ok (.iconst 0, 1) := by decide +kernel
theorem dX14_read_26 : decode cX14_read 26 = .ok (.iload_n 1, 1) := by decide +kernel
theorem dX14_read_27 : decode cX14_read 27 = .ok (.invokevirtual 393, 3) := by decide +kernel
theorem dX14_read_30 : decode cX14_read 30 = .ok (.istore_n 2, 1) := by decide +kernel
theorem dX14_read_31 : decode cX14_read 31 = .ok (.iload_n 2, 1) := by decide +kernel
theorem dX14_read_32 : decode cX14_read 32 = .ok (.ifCond .le 7, 3) := by decide +kernel
theorem dX14_read_35 : decode cX14_read 35 = .ok (.iload_n 2, 1) := by decide +kernel
theorem dX14_read_36 : decode cX14_read 36 = .ok (.goto 7, 3) := by decide +kernel
theorem dX14_read_39 : decode cX14_read 39 = .ok (.aload_n 0, 1) := by decide +kernel
theorem dX14_read_40 : decode cX14_read 40 = .ok (.invokevirtual 397, 3) := by decide +kernel
theorem dX14_read_43 : decode cX14_read 43 = .ok (.istore_n 2, 1) := by decide +kernel
theorem dX14_read_44 : decode cX14_read 44 = .ok (.iload_n 2, 1) := by decide +kernel
theorem dX14_read_45 : decode cX14_read 45 = .ok (.ifCond .le 6, 3) := by decide +kernel
theorem dX14_read_48 : decode cX14_read 48 = .ok (.iload_n 2, 1) := by decide +kernel
theorem dX14_read_49 : decode cX14_read 49 = .ok (.ineg, 1) := by decide +kernel
theorem dX14_read_50 : decode cX14_read 50 = .ok (.ireturn, 1) := by decide +kernel
theorem dX14_read_51 : decode cX14_read 51 = .ok (.aload_n 0, 1) := by decide +kernel
theorem dX14_read_52 : decode cX14_read 52 = .ok (.aload_n 0, 1) := by decide +kernel
theorem dX14_read_53 : decode cX14_read 53 = .ok (.getfield 187, 3) := by decide +kernel
theorem dX14_read_56 : decode cX14_read 56 = .ok (.putfield 127, 3) := by decide +kernel
theorem dX14_read_59 : decode cX14_read 59 = .ok (.aload_n 0, 1) := by decide +kernel
theorem dX14_read_60 : decode cX14_read 60 = .ok (.iconst 1, 1) := by decide +kernel
theorem dX14_read_61 : decode cX14_read 61 = .ok (.aload_n 0, 1) := by decide +kernel
theorem dX14_read_62 : decode cX14_read 62 = .ok (.getfield 127, 3) := by decide +kernel
theorem dX14_read_65 : decode cX14_read 65 = .ok (.isub, 1) := by decide +kernel
theorem dX14_read_66 : decode cX14_read 66 = .ok (.putfield 187, 3) := by decide +kernel
theorem dX14_read_69 : decode cX14_read 69 = .ok (.aload_n 0, 1) := by decide +kernel
theorem dX14_read_70 : decode cX14_read 70 = .ok (.iconst 1, 1) := by decide +kernel
theorem dX14_read_71 : decode cX14_read 71 = .ok (.putfield 400, 3) := by decide +kernel
theorem dX14_read_74 : decode cX14_read 74 = .ok (.aload_n 0, 1) := by decide +kernel
theorem dX14_read_75 : decode cX14_read 75 = .ok (.dup, 1) := by decide +kernel
theorem dX14_read_76 : decode cX14_read 76 = .ok (.getfield 403, 3) := by decide +kernel
theorem dX14_read_79 : decode cX14_read 79 = .ok (.iconst 1, 1) := by decide +kernel
theorem dX14_read_80 : decode cX14_read 80 = .ok (.iadd, 1) := by decide +kernel
theorem dX14_read_81 : decode cX14_read 81 = .ok (.putfield 403, 3) := by decide +kernel
theorem dX14_read_84 : decode cX14_read 84 = .ok (.aload_n 0, 1) := by decide +kernel
theorem dX14_read_85 : decode cX14_read 85 = .ok (.getfield 403, 3) := by decide +kernel
theorem dX14_read_88 : decode cX14_read 88 = .ok (.iconst 4, 1) := by decide +kernel
theorem dX14_read_89 : decode cX14_read 89 = .ok (.if_icmp .gt 51, 3) := by decide +kernel
theorem dX14_read_92 : decode cX14_read 92 = .ok (.aload_n 0, 1) := by decide +kernel
theorem dX14_read_93 : decode cX14_read 93 = .ok (.getfield 131, 3) := by decide +kernel
theorem dX14_read_96 : decode cX14_read 96 = .ok (.aload_n 0, 1) := by decide +kernel
theorem dX14_read_97 : decode cX14_read 97 = .ok (.getfield 403, 3) := by decide +kernel
theorem dX14_read_100 : decode cX14_read 100 = .ok (.iconst 1, 1) := by decide +kernel
theorem dX14_read_101 : decode cX14_read 101 = .ok (.isub, 1) := by decide +kernel
theorem dX14_read_102 : decode cX14_read 102 = .ok (.iload_n 1, 1) := by decide +kernel
theorem dX14_read_103 : decode cX14_read 103 = .ok (.iastore, 1) := by decide +kernel
theorem dX14_read_104 : decode cX14_read 104 = .ok (.iconst 0, 1) := by decide +kernel
theorem dX14_read_105 : decode cX14_read 105 = .ok (.istore_n 3, 1) := by decide +kernel
theorem dX14_read_106 : decode cX14_read 106 = .ok (.iload_n 3, 1) := by decide +kernel
theorem dX14_read_107 : decode cX14_read 107 = .ok (.iload_n 1, 1) := by decide +kernel
theorem dX14_read_108 : decode cX14_read 108 = .ok (.if_icmp .ge 32, 3) := by decide +kernel
theorem dX14_read_111 : decode cX14_read 111 = .ok (.aload_n 0, 1) := by decide +kernel
theorem dX14_read_112 : decode cX14_read 112 = .ok (.getfield 134, 3) := by decide +kernel
theorem dX14_read_115 : decode cX14_read 115 = .ok (.sipush 2000, 3) := by decide +kernel
theorem dX14_read_118 : decode cX14_read 118 = .ok (.aload_n 0, 1) := by decide +kernel
theorem dX14_read_119 : decode cX14_read 119 = .ok (.getfield 403, 3) := by decide +kernel
theorem dX14_read_122 : decode cX14_read 122 = .ok (.iconst 1, 1) := by decide +kernel
theorem dX14_read_123 : decode cX14_read 123 = .ok (.isub, 1) := by decide +kernel
theorem dX14_read_124 : decode cX14_read 124 = .ok (.imul, 1) := by decide +kernel
theorem dX14_read_125 : decode cX14_read 125 = .ok (.iload_n 3, 1) := by decide +kernel
theorem dX14_read_126 : decode cX14_read 126 = .ok (.iadd, 1) := by decide +kernel
theorem dX14_read_127 : decode cX14_read 127 = .ok (.aload_n 0, 1) := by decide +kernel
theorem dX14_read_128 : decode cX14_read 128 = .ok (.getfield 124, 3) := by decide +kernel
theorem dX14_read_131 : decode cX14_read 131 = .ok (.iload_n 3, 1) := by decide +kernel
theorem dX14_read_132 : decode cX14_read 132 = .ok (.iaload, 1) := by decide +kernel
theorem dX14_read_133 : decode cX14_read 133 = .ok (.iastore, 1) := by decide +kernel
theorem dX14_read_134 : decode cX14_read 134 = .ok (.iinc 3 1, 3) := by decide +kernel
theorem dX14_read_137 : decode cX14_read 137 = .ok (.goto (-31), 3) := by decide +kernel
theorem dX14_read_140 : decode cX14_read 140 = .ok (.iconst 0, 1) := by decide +kernel
theorem dX14_read_141 : decode cX14_read 141 = .ok (.istore_n 3, 1) := by decide +kernel
theorem dX14_read_142 : decode cX14_read 142 = .ok (.iload_n 3, 1) := by decide +kernel
theorem dX14_read_143 : decode cX14_read 143 = .ok (.sipush 128, 3) := by decide +kernel
theorem dX14_read_146 : decode cX14_read 146 = .ok (.if_icmp .ge 16, 3) := by decide +kernel
theorem dX14_read_149 : decode cX14_read 149 = .ok (.aload_n 0, 1) := by decide +kernel
theorem dX14_read_150 : decode cX14_read 150 = .ok (.getfield 161, 3) := by decide +kernel
theorem dX14_read_153 : decode cX14_read 153 = .ok (.iload_n 3, 1) := by decide +kernel
theorem dX14_read_154 : decode cX14_read 154 = .ok (.lconst 0, 1) := by decide +kernel
theorem dX14_read_155 : decode cX14_read 155 = .ok (.lastore, 1) := by decide +kernel
theorem dX14_read_156 : decode cX14_read 156 = .ok (.iinc 3 1, 3) := by decide +kernel
theorem dX14_read_159 : decode cX14_read 159 = .ok (.goto (-17), 3) := by decide +kernel
theorem dX14_read_162 : decode cX14_read 162 = .ok (.aload_n 0, 1) := by decide +kernel
theorem dX14_read_163 : decode cX14_read 163 = .ok (.aload_n 0, 1) := by decide +kernel
theorem dX14_read_164 : decode cX14_read 164 = .ok (.getfield 16, 3) := by decide +kernel
theorem dX14_read_167 : decode cX14_read 167 = .ok (.aload_n 0, 1) := by decide +kernel
theorem dX14_read_168 : decode cX14_read 168 = .ok (.getfield 127, 3) := by decide +kernel
theorem dX14_read_171 : decode cX14_read 171 = .ok (.iaload, 1) := by decide +kernel
theorem dX14_read_172 : decode cX14_read 172 = .ok (.ifCond .le 7, 3) := by decide +kernel
theorem dX14_read_175 : decode cX14_read 175 = .ok (.iconst 1, 1) := by decide +kernel
theorem dX14_read_176 : decode cX14_read 176 = .ok (.goto 4, 3) := by decide +kernel
theorem dX14_read_179 : decode cX14_read 179 = .ok (.iconst 0, 1) := by decide +kernel
theorem dX14_read_180 : decode cX14_read 180 = .ok (.putfield 406, 3) := by decide +kernel
theorem dX14_read_183 : decode cX14_read 183 = .ok (.aload_n 0, 1) := by decide +kernel
theorem dX14_read_184 : decode cX14_read 184 = .ok (.getfield 19, 3) := by decide +kernel
theorem dX14_read_187 : decode cX14_read 187 = .ok (.aload_n 0, 1) := by decide +kernel
theorem dX14_read_188 : decode cX14_read 188 = .ok (.getfield 127, 3) := by decide +kernel
theorem dX14_read_191 : decode cX14_read 191 = .ok (.iaload, 1) := by decide +kernel
theorem dX14_read_192 : decode cX14_read 192 = .ok (.ireturn, 1) := by decide +kernel
theorem dX14_ring_0 : decode cX14_ring 0 = .ok (.aload_n 0, 1) := by decide +kernel
theorem dX14_ring_1 : decode cX14_ring 1 = .ok (.iconst 0, 1) := by decide +kernel
theorem dX14_ring_2 : decode cX14_ring 2 = .ok (.putfield 181, 3) := by decide +kernel
theorem dX14_ring_5 : decode cX14_ring 5 = .ok (.iload_n 1, 1) := by decide +kernel
theorem dX14_ring_6 : decode cX14_ring 6 = .ok (.ifCond .lt 20, 3) := by decide +kernel
theorem dX14_ring_9 : decode cX14_ring 9 = .ok (.iload_n 1, 1) := by decide +kernel
theorem dX14_ring_10 : decode cX14_ring 10 = .ok (.aload_n 0, 1) := by decide +kernel
theorem dX14_ring_11 : decode cX14_ring 11 = .ok (.getfield 390, 3) := by decide +kernel
theorem dX14_ring_14 : decode cX14_ring 14 = .ok (.if_icmp .ge 12, 3) := by decide +kernel
theorem dX14_ring_17 : decode cX14_ring 17 = .ok (.aload_n 0, 1) := by decide +kernel
theorem dX14_ring_18 : decode cX14_ring 18 = .ok (.getfield 152, 3) := by decide +kernel
theorem dX14_ring_21 : decode cX14_ring 21 = .ok (.iload_n 1, 1) := by decide +kernel
theorem dX14_ring_22 : decode cX14_ring 22 = .ok (.iaload, 1) := by decide +kernel
theorem dX14_ring_23 : decode cX14_ring 23 = .ok (.goto 4, 3) := by decide +kernel
theorem dX14_ring_26 : decode cX14_ring 26 = .ok (.iconst 0, 1) := by decide +kernel
theorem dX14_ring_27 : decode cX14_ring 27 = .ok (.ireturn, 1) := by decide +kernel
theorem dX14_isService_0 : decode cX14_isService 0 = .ok (.aload_n 0, 1) := by decide +kernel
theorem dX14_isService_1 : decode cX14_isService 1 = .ok (.getfield 400, 3) := by decide +kernel
theorem dX14_isService_4 : decode cX14_isService 4 = .ok (.ifCond .eq 25, 3) := by decide +kernel
theorem dX14_isService_7 : decode cX14_isService 7 = .ok (.iload_n 1, 1) := by decide +kernel
theorem dX14_isService_8 : decode cX14_isService 8 = .ok (.iconst 1, 1) := by decide +kernel
theorem dX14_isService_9 : decode cX14_isService 9 = .ok (.if_icmp .lt 20, 3) := by decide +kernel
theorem dX14_isService_12 : decode cX14_isService 12 = .ok (.iload_n 1, 1) := by decide +kernel
theorem dX14_isService_13 : decode cX14_isService 13 = .ok (.aload_n 0, 1) := by decide +kernel
theorem dX14_isService_14 : decode cX14_isService 14 = .ok (.getfield 19, 3) := by decide +kernel
theorem dX14_isService_17 : decode cX14_isService 17 = .ok (.aload_n 0, 1) := by decide +kernel
theorem dX14_isService_18 : decode cX14_isService 18 = .ok (.getfield 127, 3) := by decide +kernel
theorem dX14_isService_21 : decode cX14_isService 21 = .ok (.iaload, 1) := by decide +kernel
theorem dX14_isService_22 : decode cX14_isService 22 = .ok (.if_icmp .gt 7, 3) := by decide +kernel
theorem dX14_isService_25 : decode cX14_isService 25 = .ok (.iconst 1, 1) := by decide +kernel
theorem dX14_isService_26 : decode cX14_isService 26 = .ok (.goto 4, 3) := by decide +kernel
theorem dX14_isService_29 : decode cX14_isService 29 = .ok (.iconst 0, 1) := by decide +kernel
theorem dX14_isService_30 : decode cX14_isService 30 = .ok (.ireturn, 1) := by decide +kernel
theorem dX14_isParam_0 : decode cX14_isParam 0 = .ok (.aload_n 0, 1) := by decide +kernel
theorem dX14_isParam_1 : decode cX14_isParam 1 = .ok (.iload_n 1, 1) := by decide +kernel
theorem dX14_isParam_2 : decode cX14_isParam 2 = .ok (.invokevirtual 409, 3) := by decide +kernel
theorem dX14_isParam_5 : decode cX14_isParam 5 = .ok (.ifCond .eq 32, 3) := by decide +kernel
theorem dX14_isParam_8 : decode cX14_isParam 8 = .ok (.iload_n 2, 1) := by decide +kernel
theorem dX14_isParam_9 : decode cX14_isParam 9 = .ok (.iconst 1, 1) := by decide +kernel
theorem dX14_isParam_10 : decode cX14_isParam 10 = .ok (.if_icmp .lt 27, 3) := by decide +kernel
theorem dX14_isParam_13 : decode cX14_isParam 13 = .ok (.iload_n 2, 1) := by decide +kernel
theorem dX14_isParam_14 : decode cX14_isParam 14 = .ok (.aload_n 0, 1) := by decide +kernel
theorem dX14_isParam_15 : decode cX14_isParam 15 = .ok (.getfield 79, 3) := by decide +kernel
theorem dX14_isParam_18 : decode cX14_isParam 18 = .ok (.bipush 16, 2) := by decide +kernel
theorem dX14_isParam_20 : decode cX14_isParam 20 = .ok (.aload_n 0, 1) := by decide +kernel
theorem dX14_isParam_21 : decode cX14_isParam 21 = .ok (.getfield 127, 3) := by decide +kernel
theorem dX14_isParam_24 : decode cX14_isParam 24 = .ok (.imul, 1) := by decide +kernel
theorem dX14_isParam_25 : decode cX14_isParam 25 = .ok (.iload_n 1, 1) := by decide +kernel
theorem dX14_isParam_26 : decode cX14_isParam 26 = .ok (.iadd, 1) := by decide +kernel
theorem dX14_isParam_27 : decode cX14_isParam 27 = .ok (.iconst 1, 1) := by decide +kernel
theorem dX14_isParam_28 : decode cX14_isParam 28 = .ok (.isub, 1) := by decide +kernel
theorem dX14_isParam_29 : decode cX14_isParam 29 = .ok (.iaload, 1) := by decide +kernel
theorem dX14_isParam_30 : decode cX14_isParam 30 = .ok (.if_icmp .gt 7, 3) := by decide +kernel
theorem dX14_isParam_33 : decode cX14_isParam 33 = .ok (.iconst 1, 1) := by decide +kernel
theorem dX14_isParam_34 : decode cX14_isParam 34 = .ok (.goto 4, 3) := by decide +kernel
theorem dX14_isParam_37 : decode cX14_isParam 37 = .ok (.iconst 0, 1) := by decide +kernel
theorem dX14_isParam_38 : decode cX14_isParam 38 = .ok (.ireturn, 1) := by decide +kernel
theorem dX14_service_0 : decode cX14_service 0 = .ok (.aload_n 0, 1) := by decide +kernel
theorem dX14_service_1 : decode cX14_service 1 = .ok (.iconst 0, 1) := by decide +kernel
theorem dX14_service_2 : decode cX14_service 2 = .ok (.putfield 181, 3) := by decide +kernel
theorem dX14_service_5 : decode cX14_service 5 = .ok (.aload_n 0, 1) := by decide +kernel
theorem dX14_service_6 : decode cX14_service 6 = .ok (.iload_n 1, 1) := by decide +kernel
theorem dX14_service_7 : decode cX14_service 7 = .ok (.invokevirtual 409, 3) := by decide +kernel
theorem dX14_service_10 : decode cX14_service 10 = .ok (.ifCond .ne 5, 3) := by decide +kernel
theorem dX14_service_13 : decode cX14_service 13 = .ok (.iconst (-1), 1) := by decide +kernel
theorem dX14_service_14 : decode cX14_service 14 = .ok (.ireturn, 1) := by decide +kernel
theorem dX14_service_15 : decode cX14_service 15 = .ok (.iload_n 1, 1) := by decide +kernel
theorem dX14_service_16 : decode cX14_service 16 = .ok (.iconst 1, 1) := by decide +kernel
theorem dX14_service_17 : decode cX14_service 17 = .ok (.isub, 1) := by decide +kernel
theorem dX14_service_18 : decode cX14_service 18 = .ok (.istore_n 3, 1) := by decide +kernel
theorem dX14_service_19 : decode cX14_service 19 = .ok (.iload_n 2, 1) := by decide +kernel
theorem dX14_service_20 : decode cX14_service 20 = .ok (.tableswitch 199 0 4 #[36, 51, 66, 81, 98], 36) := by decide +kernel
theorem dX14_service_56 : decode cX14_service 56 = .ok (.aload_n 0, 1) := by decide +kernel
theorem dX14_service_57 : decode cX14_service 57 = .ok (.getfield 70, 3) := by decide +kernel
theorem dX14_service_60 : decode cX14_service 60 = .ok (.bipush 16, 2) := by decide +kernel
theorem dX14_service_62 : decode cX14_service 62 = .ok (.aload_n 0, 1) := by decide +kernel
theorem dX14_service_63 : decode cX14_service 63 = .ok (.getfield 127, 3) := by decide +kernel
theorem dX14_service_66 : decode cX14_service 66 = .ok (.imul, 1) := by decide +kernel
theorem dX14_service_67 : decode cX14_service 67 = .ok (.iload_n 3, 1) := by decide +kernel
theorem dX14_service_68 : decode cX14_service 68 = .ok (.iadd, 1) := by decide +kernel
theorem dX14_service_69 : decode cX14_service 69 = .ok (.iaload, 1) := by decide +kernel
theorem dX14_service_70 : decode cX14_service 70 = .ok (.ireturn, 1) := by decide +kernel
theorem dX14_service_71 : decode cX14_service 71 = .ok (.aload_n 0, 1) := by decide +kernel
theorem dX14_service_72 : decode cX14_service 72 = .ok (.getfield 73, 3) := by decide +kernel
theorem dX14_service_75 : decode cX14_service 75 = .ok (.bipush 16, 2) := by decide +kernel
theorem dX14_service_77 : decode cX14_service 77 = .ok (.aload_n 0, 1) := by decide +kernel
theorem dX14_service_78 : decode cX14_service 78 = .ok (.getfield 127, 3) := by decide +kernel
theorem dX14_service_81 : decode cX14_service 81 = .ok (.imul, 1) := by decide +kernel
theorem dX14_service_82 : decode cX14_service 82 = .ok (.iload_n 3, 1) := by decide +kernel
theorem dX14_service_83 : decode cX14_service 83 = .ok (.iadd, 1) := by decide +kernel
theorem dX14_service_84 : decode cX14_service 84 = .ok (.iaload, 1) := by decide +kernel
theorem dX14_service_85 : decode cX14_service 85 = .ok (.ireturn, 1) := by decide +kernel
theorem dX14_service_86 : decode cX14_service 86 = .ok (.aload_n 0, 1) := by decide +kernel
theorem dX14_service_87 : decode cX14_service 87 = .ok (.getfield 79, 3) := by decide +kernel
theorem dX14_service_90 : decode cX14_service 90 = .ok (.bipush 16, 2) := by decide +kernel
theorem dX14_service_92 : decode cX14_service 92 = .ok (.aload_n 0, 1) := by decide +kernel
theorem dX14_service_93 : decode cX14_service 93 = .ok (.getfield 127, 3) := by decide +kernel
theorem dX14_service_96 : decode cX14_service 96 = .ok (.imul, 1) := by decide +kernel
theorem dX14_service_97 : decode cX14_service 97 = .ok (.iload_n 3, 1) := by decide +kernel
theorem dX14_service_98 : decode cX14_service 98 = .ok (.iadd, 1) := by decide +kernel
theorem dX14_service_99 : decode cX14_service 99 = .ok (.iaload, 1) := by decide +kernel
theorem dX14_service_100 : decode cX14_service 100 = .ok (.ireturn, 1) := by decide +kernel
theorem dX14_service_101 : decode cX14_service 101 = .ok (.aload_n 0, 1) := by decide +kernel
theorem dX14_service_102 : decode cX14_service 102 = .ok (.getfield 76, 3) := by decide +kernel
theorem dX14_service_105 : decode cX14_service 105 = .ok (.bipush 16, 2) := by decide +kernel
theorem dX14_service_107 : decode cX14_service 107 = .ok (.aload_n 0, 1) := by decide +kernel
theorem dX14_service_108 : decode cX14_service 108 = .ok (.getfield 127, 3) := by decide +kernel
theorem dX14_service_111 : decode cX14_service 111 = .ok (.imul, 1) := by decide +kernel
theorem dX14_service_112 : decode cX14_service 112 = .ok (.iload_n 3, 1) := by decide +kernel
theorem dX14_service_113 : decode cX14_service 113 = .ok (.iadd, 1) := by decide +kernel
theorem dX14_service_114 : decode cX14_service 114 = .ok (.iaload, 1) := by decide +kernel
theorem dX14_service_115 : decode cX14_service 115 = .ok (.iconst 1, 1) := by decide +kernel
theorem dX14_service_116 : decode cX14_service 116 = .ok (.iadd, 1) := by decide +kernel
theorem dX14_service_117 : decode cX14_service 117 = .ok (.ireturn, 1) := by decide +kernel
theorem dX14_service_118 : decode cX14_service 118 = .ok (.aload_n 0, 1) := by decide +kernel
theorem dX14_service_119 : decode cX14_service 119 = .ok (.getfield 406, 3) := by decide +kernel
theorem dX14_service_122 : decode cX14_service 122 = .ok (.iconst 1, 1) := by decide +kernel
theorem dX14_service_123 : decode cX14_service 123 = .ok (.isub, 1) := by decide +kernel
theorem dX14_service_124 : decode cX14_service 124 = .ok (.istore 4, 2) := by decide +kernel
theorem dX14_service_126 : decode cX14_service 126 = .ok (.iload 4, 2) := by decide +kernel
theorem dX14_service_128 : decode cX14_service 128 = .ok (.ifCond .lt 89, 3) := by decide +kernel
theorem dX14_service_131 : decode cX14_service 131 = .ok (.aload_n 0, 1) := by decide +kernel
theorem dX14_service_132 : decode cX14_service 132 = .ok (.aload_n 0, 1) := by decide +kernel
theorem dX14_service_133 : decode cX14_service 133 = .ok (.getfield 127, 3) := by decide +kernel
theorem dX14_service_136 : decode cX14_service 136 = .ok (.aload_n 0, 1) := by decide +kernel
theorem dX14_service_137 : decode cX14_service 137 = .ok (.getfield 70, 3) := by decide +kernel
theorem dX14_service_140 : decode cX14_service 140 = .ok (.bipush 16, 2) := by decide +kernel
theorem dX14_service_142 : decode cX14_service 142 = .ok (.aload_n 0, 1) := by decide +kernel
theorem dX14_service_143 : decode cX14_service 143 = .ok (.getfield 127, 3) := by decide +kernel
theorem dX14_service_146 : decode cX14_service 146 = .ok (.imul, 1) := by decide +kernel
theorem dX14_service_147 : decode cX14_service 147 = .ok (.iload_n 3, 1) := by decide +kernel
theorem dX14_service_148 : decode cX14_service 148 = .ok (.iadd, 1) := by decide +kernel
theorem dX14_service_149 : decode cX14_service 149 = .ok (.iaload, 1) := by decide +kernel
theorem dX14_service_150 : decode cX14_service 150 = .ok (.iload 4, 2) := by decide +kernel
theorem dX14_service_152 : decode cX14_service 152 = .ok (.invokevirtual 380, 3) := by decide +kernel
theorem dX14_service_155 : decode cX14_service 155 = .ok (.istore 5, 2) := by decide +kernel
theorem dX14_service_157 : decode cX14_service 157 = .ok (.iload 5, 2) := by decide +kernel
theorem dX14_service_159 : decode cX14_service 159 = .ok (.ifCond .lt 8, 3) := by decide +kernel
theorem dX14_service_162 : decode cX14_service 162 = .ok (.iload 5, 2) := by decide +kernel
theorem dX14_service_164 : decode cX14_service 164 = .ok (.iconst 1, 1) := by decide +kernel
theorem dX14_service_165 : decode cX14_service 165 = .ok (.iadd, 1) := by decide +kernel
theorem dX14_service_166 : decode cX14_service 166 = .ok (.ireturn, 1) := by decide +kernel
theorem dX14_service_167 : decode cX14_service 167 = .ok (.aload_n 0, 1) := by decide +kernel
theorem dX14_service_168 : decode cX14_service 168 = .ok (.getfield 67, 3) := by decide +kernel
theorem dX14_service_171 : decode cX14_service 171 = .ok (.bipush 6, 2) := by decide +kernel
theorem dX14_service_173 : decode cX14_service 173 = .ok (.aload_n 0, 1) := by decide +kernel
theorem dX14_service_174 : decode cX14_service 174 = .ok (.getfield 127, 3) := by decide +kernel
theorem dX14_service_177 : decode cX14_service 177 = .ok (.imul, 1) := by decide +kernel
theorem dX14_service_178 : decode cX14_service 178 = .ok (.iload 4, 2) := by decide +kernel
theorem dX14_service_180 : decode cX14_service 180 = .ok (.iadd, 1) := by decide +kernel
theorem dX14_service_181 : decode cX14_service 181 = .ok (.iaload, 1) := by decide +kernel
theorem dX14_service_182 : decode cX14_service 182 = .ok (.ifCond .ne 7, 3) := by decide +kernel
theorem dX14_service_185 : decode cX14_service 185 = .ok (.iconst (-1), 1) := by decide +kernel
theorem dX14_service_186 : decode cX14_service 186 = .ok (.goto 26, 3) := by decide +kernel
theorem dX14_service_189 : decode cX14_service 189 = .ok (.aload_n 0, 1) := by decide +kernel
theorem dX14_service_190 : decode cX14_service 190 = .ok (.aload_n 0, 1) := by decide +kernel
theorem dX14_service_191 : decode cX14_service 191 = .ok (.getfield 127, 3) := by decide +kernel
theorem dX14_service_194 : decode cX14_service 194 = .ok (.aload_n 0, 1) := by decide +kernel
theorem dX14_service_195 : decode cX14_service 195 = .ok (.getfield 67, 3) := by decide +kernel
theorem dX14_service_198 : decode cX14_service 198 = .ok (.bipush 6, 2) := by decide +kernel
theorem dX14_service_200 : decode cX14_service 200 = .ok (.aload_n 0, 1) := by decide +kernel
theorem dX14_service_201 : decode cX14_service 201 = .ok (.getfield 127, 3) := by decide +kernel
theorem dX14_service_204 : decode cX14_service 204 = .ok (.imul, 1) := by decide +kernel
theorem dX14_service_205 : decode cX14_service 205 = .ok (.iload 4, 2) := by decide +kernel
theorem dX14_service_207 : decode cX14_service 207 = .ok (.iadd, 1) := by decide +kernel
theorem dX14_service_208 : decode cX14_service 208 = .ok (.iaload, 1) := by decide +kernel
theorem dX14_service_209 : decode cX14_service 209 = .ok (.invokevirtual 377, 3) := by decide +kernel
theorem dX14_service_212 : decode cX14_service 212 = .ok (.istore 4, 2) := by decide +kernel
theorem dX14_service_214 : decode cX14_service 214 = .ok (.goto (-88), 3) := by decide +kernel
theorem dX14_service_217 : decode cX14_service 217 = .ok (.iconst 0, 1) := by decide +kernel
theorem dX14_service_218 : decode cX14_service 218 = .ok (.ireturn, 1) := by decide +kernel
theorem dX14_service_219 : decode cX14_service 219 = .ok (.bipush (-2), 2) := by decide +kernel
theorem dX14_service_221 : decode cX14_service 221 = .ok (.ireturn, 1) := by decide +kernel
theorem dX14_parameter_0 : decode cX14_parameter 0 = .ok (.aload_n 0, 1) := by decide +kernel
theorem dX14_parameter_1 : decode cX14_parameter 1 = .ok (.iconst 0, 1) := by decide +kernel
theorem dX14_parameter_2 : decode cX14_parameter 2 = .ok (.putfield 181, 3) := by decide +kernel
theorem dX14_parameter_5 : decode cX14_parameter 5 = .ok (.aload_n 0, 1) := by decide +kernel
theorem dX14_parameter_6 : decode cX14_parameter 6 = .ok (.iload_n 1, 1) := by decide +kernel
theorem dX14_parameter_7 : decode cX14_parameter 7 = .ok (.iload_n 2, 1) := by decide +kernel
theorem dX14_parameter_8 : decode cX14_parameter 8 = .ok (.invokevirtual 412, 3) := by decide +kernel
theorem dX14_parameter_11 : decode cX14_parameter 11 = .ok (.ifCond .ne 5, 3) := by decide +kernel
theorem dX14_parameter_14 : decode cX14_parameter 14 = .ok (.iconst (-1), 1) := by decide +kernel
theorem dX14_parameter_15 : decode cX14_parameter 15 = .ok (.ireturn, 1) := by decide +kernel
theorem dX14_parameter_16 : decode cX14_parameter 16 = .ok (.bipush 8, 2) := by decide +kernel
theorem dX14_parameter_18 : decode cX14_parameter 18 = .ok (.iload_n 1, 1) := by decide +kernel
theorem dX14_parameter_19 : decode cX14_parameter 19 = .ok (.iconst 1, 1) := by decide +kernel
theorem dX14_parameter_20 : decode cX14_parameter 20 = .ok (.isub, 1) := by decide +kernel
theorem dX14_parameter_21 : decode cX14_parameter 21 = .ok (.imul, 1) := by decide +kernel
theorem dX14_parameter_22 : decode cX14_parameter 22 = .ok (.iload_n 2, 1) := by decide +kernel
theorem dX14_parameter_23 : decode cX14_parameter 23 = .ok (.iadd, 1) := by decide +kernel
theorem dX14_parameter_24 : decode cX14_parameter 24 = .ok (.iconst 1, 1) := by decide +kernel
theorem dX14_parameter_25 : decode cX14_parameter 25 = .ok (.isub, 1) := by decide +kernel
theorem dX14_parameter_26 : decode cX14_parameter 26 = .ok (.istore 4, 2) := by decide +kernel
theorem dX14_parameter_28 : decode cX14_parameter 28 = .ok (.iload_n 3, 1) := by decide +kernel
theorem dX14_parameter_29 : decode cX14_parameter 29 = .ok (.tableswitch 166 0 4 #[35, 52, 79, 96, 149], 35) := by decide +kernel
theorem dX14_parameter_64 : decode cX14_parameter 64 = .ok (.aload_n 0, 1) := by decide +kernel
theorem dX14_parameter_65 : decode cX14_parameter 65 = .ok (.getfield 82, 3) := by decide +kernel
theorem dX14_parameter_68 : decode cX14_parameter 68 = .ok (.sipush 128, 3) := by decide +kernel
theorem dX14_parameter_71 : decode cX14_parameter 71 = .ok (.aload_n 0, 1) := by decide +kernel
theorem dX14_parameter_72 : decode cX14_parameter 72 = .ok (.getfield 127, 3) := by decide +kernel
theorem dX14_parameter_75 : decode cX14_parameter 75 = .ok (.imul, 1) := by decide +kernel
theorem dX14_parameter_76 : decode cX14_parameter 76 = .ok (.iload 4, 2) := by decide +kernel
theorem dX14_parameter_78 : decode cX14_parameter 78 = .ok (.iadd, 1) := by decide +kernel
theorem dX14_parameter_79 : decode cX14_parameter 79 = .ok (.iaload, 1) := by decide +kernel
theorem dX14_parameter_80 : decode cX14_parameter 80 = .ok (.ireturn, 1) := by decide +kernel
theorem dX14_parameter_81 : decode cX14_parameter 81 = .ok (.aload_n 0, 1) := by decide +kernel
theorem dX14_parameter_82 : decode cX14_parameter 82 = .ok (.aload_n 0, 1) := by decide +kernel
theorem dX14_parameter_83 : decode cX14_parameter 83 = .ok (.getfield 127, 3) := by decide +kernel
theorem dX14_parameter_86 : decode cX14_parameter 86 = .ok (.aload_n 0, 1) := by decide +kernel
theorem dX14_parameter_87 : decode cX14_parameter 87 = .ok (.getfield 85, 3) := by decide +kernel
theorem dX14_parameter_90 : decode cX14_parameter 90 = .ok (.sipush 128, 3) := by decide +kernel
theorem dX14_parameter_93 : decode cX14_parameter 93 = .ok (.aload_n 0, 1) := by decide +kernel
theorem dX14_parameter_94 : decode cX14_parameter 94 = .ok (.getfield 127, 3) := by decide +kernel
theorem dX14_parameter_97 : decode cX14_parameter 97 = .ok (.imul, 1) := by decide +kernel
theorem dX14_parameter_98 : decode cX14_parameter 98 = .ok (.iload 4, 2) := by decide +kernel
theorem dX14_parameter_100 : decode cX14_parameter 100 = .ok (.iadd, 1) := by decide +kernel
theorem dX14_parameter_101 : decode cX14_parameter 101 = .ok (.iaload, 1) := by decide +kernel
theorem dX14_parameter_102 : decode cX14_parameter 102 = .ok (.invokevirtual 374, 3) := by decide +kernel
theorem dX14_parameter_105 : decode cX14_parameter 105 = .ok (.iconst 1, 1) := by decide +kernel
theorem dX14_parameter_106 : decode cX14_parameter 106 = .ok (.iadd, 1) := by decide +kernel
theorem dX14_parameter_107 : decode cX14_parameter 107 = .ok (.ireturn, 1) := by decide +kernel
theorem dX14_parameter_108 : decode cX14_parameter 108 = .ok (.aload_n 0, 1) := by decide +kernel
theorem dX14_parameter_109 : decode cX14_parameter 109 = .ok (.getfield 88, 3) := by decide +kernel
theorem dX14_parameter_112 : decode cX14_parameter 112 = .ok (.sipush 128, 3) := by decide +kernel
theorem dX14_parameter_115 : decode cX14_parameter 115 = .ok (.aload_n 0, 1) := by decide +kernel
theorem dX14_parameter_116 : decode cX14_parameter 116 = .ok (.getfield 127, 3) := by decide +kernel
theorem dX14_parameter_119 : decode cX14_parameter 119 = .ok (.imul, 1) := by decide +kernel
theorem dX14_parameter_120 : decode cX14_parameter 120 = .ok (.iload 4, 2) := by decide +kernel
theorem dX14_parameter_122 : decode cX14_parameter 122 = .ok (.iadd, 1) := by decide +kernel
theorem dX14_parameter_123 : decode cX14_parameter 123 = .ok (.iaload, 1) := by decide +kernel
theorem dX14_parameter_124 : decode cX14_parameter 124 = .ok (.ireturn, 1) := by decide +kernel
theorem dX14_parameter_125 : decode cX14_parameter 125 = .ok (.aload_n 0, 1) := by decide +kernel
theorem dX14_parameter_126 : decode cX14_parameter 126 = .ok (.getfield 88, 3) := by decide +kernel
theorem dX14_parameter_129 : decode cX14_parameter 129 = .ok (.sipush 128, 3) := by decide +kernel
theorem dX14_parameter_132 : decode cX14_parameter 132 = .ok (.aload_n 0, 1) := by decide +kernel
theorem dX14_parameter_133 : decode cX14_parameter 133 = .ok (.getfield 127, 3) := by decide +kernel
theorem dX14_parameter_136 : decode cX14_parameter 136 = .ok (.imul, 1) := by decide +kernel
theorem dX14_parameter_137 : decode cX14_parameter 137 = .ok (.iload 4, 2) := by decide +kernel
theorem dX14_parameter_139 : decode cX14_parameter 139 = .ok (.iadd, 1) := by decide +kernel
theorem dX14_parameter_140 : decode cX14_parameter 140 = .ok (.iaload, 1) := by decide +kernel
theorem dX14_parameter_141 : decode cX14_parameter 141 = .ok (.ifCond .ne 7, 3) := by decide +kernel
theorem dX14_parameter_144 : decode cX14_parameter 144 = .ok (.iconst 0, 1) := by decide +kernel
theorem dX14_parameter_145 : decode cX14_parameter 145 = .ok (.goto 32, 3) := by decide +kernel
theorem dX14_parameter_148 : decode cX14_parameter 148 = .ok (.aload_n 0, 1) := by decide +kernel
theorem dX14_parameter_149 : decode cX14_parameter 149 = .ok (.aload_n 0, 1) := by decide +kernel
theorem dX14_parameter_150 : decode cX14_parameter 150 = .ok (.getfield 127, 3) := by decide +kernel
theorem dX14_parameter_153 : decode cX14_parameter 153 = .ok (.iload_n 1, 1) := by decide +kernel
theorem dX14_parameter_154 : decode cX14_parameter 154 = .ok (.iconst 1, 1) := by decide +kernel
theorem dX14_parameter_155 : decode cX14_parameter 155 = .ok (.isub, 1) := by decide +kernel
theorem dX14_parameter_156 : decode cX14_parameter 156 = .ok (.aload_n 0, 1) := by decide +kernel
theorem dX14_parameter_157 : decode cX14_parameter 157 = .ok (.getfield 91, 3) := by decide +kernel
theorem dX14_parameter_160 : decode cX14_parameter 160 = .ok (.sipush 128, 3) := by decide +kernel
theorem dX14_parameter_163 : decode cX14_parameter 163 = .ok (.aload_n 0, 1) := by decide +kernel
theorem dX14_parameter_164 : decode cX14_parameter 164 = .ok (.getfield 127, 3) := by decide +kernel
theorem dX14_parameter_167 : decode cX14_parameter 167 = .ok (.imul, 1) := by decide +kernel
theorem dX14_parameter_168 : decode cX14_parameter 168 = .ok (.iload 4, 2) := by decide +kernel
theorem dX14_parameter_170 : decode cX14_parameter 170 = .ok (.iadd, 1) := by decide +kernel
theorem dX14_parameter_171 : decode cX14_parameter 171 = .ok (.iaload, 1) := by decide +kernel
theorem dX14_parameter_172 : decode cX14_parameter 172 = .ok (.invokevirtual 384, 3) := by decide +kernel
theorem dX14_parameter_175 : decode cX14_parameter 175 = .ok (.iconst 1, 1) := by decide +kernel
theorem dX14_parameter_176 : decode cX14_parameter 176 = .ok (.iadd, 1) := by decide +kernel
theorem dX14_parameter_177 : decode cX14_parameter 177 = .ok (.ireturn, 1) := by decide +kernel
theorem dX14_parameter_178 : decode cX14_parameter 178 = .ok (.aload_n 0, 1) := by decide +kernel
theorem dX14_parameter_179 : decode cX14_parameter 179 = .ok (.getfield 94, 3) := by decide +kernel
theorem dX14_parameter_182 : decode cX14_parameter 182 = .ok (.sipush 128, 3) := by decide +kernel
theorem dX14_parameter_185 : decode cX14_parameter 185 = .ok (.aload_n 0, 1) := by decide +kernel
theorem dX14_parameter_186 : decode cX14_parameter 186 = .ok (.getfield 127, 3) := by decide +kernel
theorem dX14_parameter_189 : decode cX14_parameter 189 = .ok (.imul, 1) := by decide +kernel
theorem dX14_parameter_190 : decode cX14_parameter 190 = .ok (.iload 4, 2) := by decide +kernel
theorem dX14_parameter_192 : decode cX14_parameter 192 = .ok (.iadd, 1) := by decide +kernel
theorem dX14_parameter_193 : decode cX14_parameter 193 = .ok (.iaload, 1) := by decide +kernel
theorem dX14_parameter_194 : decode cX14_parameter 194 = .ok (.ireturn, 1) := by decide +kernel
theorem dX14_parameter_195 : decode cX14_parameter 195 = .ok (.bipush (-2), 2) := by decide +kernel
theorem dX14_parameter_197 : decode cX14_parameter 197 = .ok (.ireturn, 1) := by decide +kernel
theorem dX14_octet_0 : decode cX14_octet 0 = .ok (.aload_n 0, 1) := by decide +kernel
theorem dX14_octet_1 : decode cX14_octet 1 = .ok (.iconst 0, 1) := by decide +kernel
theorem dX14_octet_2 : decode cX14_octet 2 = .ok (.putfield 181, 3) := by decide +kernel
theorem dX14_octet_5 : decode cX14_octet 5 = .ok (.aload_n 0, 1) := by decide +kernel
theorem dX14_octet_6 : decode cX14_octet 6 = .ok (.aload_n 0, 1) := by decide +kernel
theorem dX14_octet_7 : decode cX14_octet 7 = .ok (.getfield 415, 3) := by decide +kernel
theorem dX14_octet_10 : decode cX14_octet 10 = .ok (.bipush 64, 2) := by decide +kernel
theorem dX14_octet_12 : decode cX14_octet 12 = .ok (.if_icmp .ne 7, 3) := by decide +kernel
theorem dX14_octet_15 : decode cX14_octet 15 = .ok (.iconst 0, 1) := by decide +kernel
theorem dX14_octet_16 : decode cX14_octet 16 = .ok (.goto 7, 3) := by decide +kernel
theorem dX14_octet_19 : decode cX14_octet 19 = .ok (.aload_n 0, 1) := by decide +kernel
theorem dX14_octet_20 : decode cX14_octet 20 = .ok (.getfield 415, 3) := by decide +kernel
theorem dX14_octet_23 : decode cX14_octet 23 = .ok (.putfield 415, 3) := by decide +kernel
theorem dX14_octet_26 : decode cX14_octet 26 = .ok (.aload_n 0, 1) := by decide +kernel
theorem dX14_octet_27 : decode cX14_octet 27 = .ok (.getfield 155, 3) := by decide +kernel
theorem dX14_octet_30 : decode cX14_octet 30 = .ok (.aload_n 0, 1) := by decide +kernel
theorem dX14_octet_31 : decode cX14_octet 31 = .ok (.getfield 415, 3) := by decide +kernel
theorem dX14_octet_34 : decode cX14_octet 34 = .ok (.iload_n 1, 1) := by decide +kernel
theorem dX14_octet_35 : decode cX14_octet 35 = .ok (.sipush 255, 3) := by decide +kernel
theorem dX14_octet_38 : decode cX14_octet 38 = .ok (.iand, 1) := by decide +kernel
theorem dX14_octet_39 : decode cX14_octet 39 = .ok (.iastore, 1) := by decide +kernel
theorem dX14_octet_40 : decode cX14_octet 40 = .ok (.aload_n 0, 1) := by decide +kernel
theorem dX14_octet_41 : decode cX14_octet 41 = .ok (.dup, 1) := by decide +kernel
theorem dX14_octet_42 : decode cX14_octet 42 = .ok (.getfield 415, 3) := by decide +kernel
theorem dX14_octet_45 : decode cX14_octet 45 = .ok (.iconst 1, 1) := by decide +kernel
theorem dX14_octet_46 : decode cX14_octet 46 = .ok (.iadd, 1) := by decide +kernel
theorem dX14_octet_47 : decode cX14_octet 47 = .ok (.putfield 415, 3) := by decide +kernel
theorem dX14_octet_50 : decode cX14_octet 50 = .ok (.return_, 1) := by decide +kernel
theorem dX14_groups_0 : decode cX14_groups 0 = .ok (.aload_n 0, 1) := by decide +kernel
theorem dX14_groups_1 : decode cX14_groups 1 = .ok (.getfield 88, 3) := by decide +kernel
theorem dX14_groups_4 : decode cX14_groups 4 = .ok (.sipush 128, 3) := by decide +kernel
theorem dX14_groups_7 : decode cX14_groups 7 = .ok (.aload_n 0, 1) := by decide +kernel
theorem dX14_groups_8 : decode cX14_groups 8 = .ok (.getfield 127, 3) := by decide +kernel
theorem dX14_groups_11 : decode cX14_groups 11 = .ok (.imul, 1) := by decide +kernel
theorem dX14_groups_12 : decode cX14_groups 12 = .ok (.iload_n 1, 1) := by decide +kernel
theorem dX14_groups_13 : decode cX14_groups 13 = .ok (.iadd, 1) := by decide +kernel
theorem dX14_groups_14 : decode cX14_groups 14 = .ok (.iaload, 1) := by decide +kernel
theorem dX14_groups_15 : decode cX14_groups 15 = .ok (.ifCond .ne 5, 3) := by decide +kernel
theorem dX14_groups_18 : decode cX14_groups 18 = .ok (.iconst 1, 1) := by decide +kernel
theorem dX14_groups_19 : decode cX14_groups 19 = .ok (.ireturn, 1) := by decide +kernel
theorem dX14_groups_20 : decode cX14_groups 20 = .ok (.aload_n 0, 1) := by decide +kernel
theorem dX14_groups_21 : decode cX14_groups 21 = .ok (.aload_n 0, 1) := by decide +kernel
theorem dX14_groups_22 : decode cX14_groups 22 = .ok (.getfield 127, 3) := by decide +kernel
theorem dX14_groups_25 : decode cX14_groups 25 = .ok (.iload_n 2, 1) := by decide +kernel
theorem dX14_groups_26 : decode cX14_groups 26 = .ok (.aload_n 0, 1) := by decide +kernel
theorem dX14_groups_27 : decode cX14_groups 27 = .ok (.getfield 91, 3) := by decide +kernel
theorem dX14_groups_30 : decode cX14_groups 30 = .ok (.sipush 128, 3) := by decide +kernel
theorem dX14_groups_33 : decode cX14_groups 33 = .ok (.aload_n 0, 1) := by decide +kernel
theorem dX14_groups_34 : decode cX14_groups 34 = .ok (.getfield 127, 3) := by decide +kernel
theorem dX14_groups_37 : decode cX14_groups 37 = .ok (.imul, 1) := by decide +kernel
theorem dX14_groups_38 : decode cX14_groups 38 = .ok (.iload_n 1, 1) := by decide +kernel
theorem dX14_groups_39 : decode cX14_groups 39 = .ok (.iadd, 1) := by decide +kernel
theorem dX14_groups_40 : decode cX14_groups 40 = .ok (.iaload, 1) := by decide +kernel
theorem dX14_groups_41 : decode cX14_groups 41 = .ok (.invokevirtual 384, 3) := by decide +kernel
theorem dX14_groups_44 : decode cX14_groups 44 = .ok (.istore_n 3, 1) := by decide +kernel
theorem dX14_groups_45 : decode cX14_groups 45 = .ok (.aload_n 0, 1) := by decide +kernel
theorem dX14_groups_46 : decode cX14_groups 46 = .ok (.getfield 165, 3) := by decide +kernel
theorem dX14_groups_49 : decode cX14_groups 49 = .ok (.iload_n 3, 1) := by decide +kernel
theorem dX14_groups_50 : decode cX14_groups 50 = .ok (.baload, 1) := by decide +kernel
theorem dX14_groups_51 : decode cX14_groups 51 = .ok (.ifCond .ne 5, 3) := by decide +kernel
theorem dX14_groups_54 : decode cX14_groups 54 = .ok (.iconst 0, 1) := by decide +kernel
theorem dX14_groups_55 : decode cX14_groups 55 = .ok (.ireturn, 1) := by decide +kernel
theorem dX14_groups_56 : decode cX14_groups 56 = .ok (.aload_n 0, 1) := by decide +kernel
theorem dX14_groups_57 : decode cX14_groups 57 = .ok (.getfield 88, 3) := by decide +kernel
theorem dX14_groups_60 : decode cX14_groups 60 = .ok (.sipush 128, 3) := by decide +kernel
theorem dX14_groups_63 : decode cX14_groups 63 = .ok (.aload_n 0, 1) := by decide +kernel
theorem dX14_groups_64 : decode cX14_groups 64 = .ok (.getfield 127, 3) := by decide +kernel
theorem dX14_groups_67 : decode cX14_groups 67 = .ok (.imul, 1) := by decide +kernel
theorem dX14_groups_68 : decode cX14_groups 68 = .ok (.iload_n 1, 1) := by decide +kernel
theorem dX14_groups_69 : decode cX14_groups 69 = .ok (.iadd, 1) := by decide +kernel
theorem dX14_groups_70 : decode cX14_groups 70 = .ok (.iaload, 1) := by decide +kernel
theorem dX14_groups_71 : decode cX14_groups 71 = .ok (.iconst 1, 1) := by decide +kernel
theorem dX14_groups_72 : decode cX14_groups 72 = .ok (.if_icmp .ne 35, 3) := by decide +kernel
theorem dX14_groups_75 : decode cX14_groups 75 = .ok (.aload_n 0, 1) := by decide +kernel
theorem dX14_groups_76 : decode cX14_groups 76 = .ok (.getfield 175, 3) := by decide +kernel
theorem dX14_groups_79 : decode cX14_groups 79 = .ok (.iload_n 3, 1) := by decide +kernel
theorem dX14_groups_80 : decode cX14_groups 80 = .ok (.laload, 1) := by decide +kernel
theorem dX14_groups_81 : decode cX14_groups 81 = .ok (.aload_n 0, 1) := by decide +kernel
theorem dX14_groups_82 : decode cX14_groups 82 = .ok (.getfield 94, 3) := by decide +kernel
theorem dX14_groups_85 : decode cX14_groups 85 = .ok (.sipush 128, 3) := by decide +kernel
theorem dX14_groups_88 : decode cX14_groups 88 = .ok (.aload_n 0, 1) := by decide +kernel
theorem dX14_groups_89 : decode cX14_groups 89 = .ok (.getfield 127, 3) := by decide +kernel
theorem dX14_groups_92 : decode cX14_groups 92 = .ok (.imul, 1) := by decide +kernel
theorem dX14_groups_93 : decode cX14_groups 93 = .ok (.iload_n 1, 1) := by decide +kernel
theorem dX14_groups_94 : decode cX14_groups 94 = .ok (.iadd, 1) := by decide +kernel
theorem dX14_groups_95 : decode cX14_groups 95 = .ok (.iaload, 1) := by decide +kernel
theorem dX14_groups_96 : decode cX14_groups 96 = .ok (.i2l, 1) := by decide +kernel
theorem dX14_groups_97 : decode cX14_groups 97 = .ok (.lcmp, 1) := by decide +kernel
theorem dX14_groups_98 : decode cX14_groups 98 = .ok (.ifCond .ne 7, 3) := by decide +kernel
theorem dX14_groups_101 : decode cX14_groups 101 = .ok (.iconst 1, 1) := by decide +kernel
theorem dX14_groups_102 : decode cX14_groups 102 = .ok (.goto 4, 3) := by decide +kernel
theorem dX14_groups_105 : decode cX14_groups 105 = .ok (.iconst 0, 1) := by decide +kernel
theorem dX14_groups_106 : decode cX14_groups 106 = .ok (.ireturn, 1) := by decide +kernel
theorem dX14_groups_107 : decode cX14_groups 107 = .ok (.aload_n 0, 1) := by decide +kernel
theorem dX14_groups_108 : decode cX14_groups 108 = .ok (.getfield 175, 3) := by decide +kernel
theorem dX14_groups_111 : decode cX14_groups 111 = .ok (.iload_n 3, 1) := by decide +kernel
theorem dX14_groups_112 : decode cX14_groups 112 = .ok (.laload, 1) := by decide +kernel
theorem dX14_groups_113 : decode cX14_groups 113 = .ok (.lconst 0, 1) := by decide +kernel
theorem dX14_groups_114 : decode cX14_groups 114 = .ok (.lcmp, 1) := by decide +kernel
theorem dX14_groups_115 : decode cX14_groups 115 = .ok (.ifCond .ge 7, 3) := by decide +kernel
theorem dX14_groups_118 : decode cX14_groups 118 = .ok (.iconst 0, 1) := by decide +kernel
theorem dX14_groups_119 : decode cX14_groups 119 = .ok (.goto 28, 3) := by decide +kernel
theorem dX14_groups_122 : decode cX14_groups 122 = .ok (.aload_n 0, 1) := by decide +kernel
theorem dX14_groups_123 : decode cX14_groups 123 = .ok (.getfield 175, 3) := by decide +kernel
theorem dX14_groups_126 : decode cX14_groups 126 = .ok (.iload_n 3, 1) := by decide +kernel
theorem dX14_groups_127 : decode cX14_groups 127 = .ok (.laload, 1) := by decide +kernel
theorem dX14_groups_128 : decode cX14_groups 128 = .ok (.ldc2_w 418, 3) := by decide +kernel
theorem dX14_groups_131 : decode cX14_groups 131 = .ok (.lcmp, 1) := by decide +kernel
theorem dX14_groups_132 : decode cX14_groups 132 = .ok (.ifCond .le 8, 3) := by decide +kernel
theorem dX14_groups_135 : decode cX14_groups 135 = .ok (.bipush 8, 2) := by decide +kernel
theorem dX14_groups_137 : decode cX14_groups 137 = .ok (.goto 10, 3) := by decide +kernel
theorem dX14_groups_140 : decode cX14_groups 140 = .ok (.aload_n 0, 1) := by decide +kernel
theorem dX14_groups_141 : decode cX14_groups 141 = .ok (.getfield 175, 3) := by decide +kernel
theorem dX14_groups_144 : decode cX14_groups 144 = .ok (.iload_n 3, 1) := by decide +kernel
theorem dX14_groups_145 : decode cX14_groups 145 = .ok (.laload, 1) := by decide +kernel
theorem dX14_groups_146 : decode cX14_groups 146 = .ok (.l2i, 1) := by decide +kernel
theorem dX14_groups_147 : decode cX14_groups 147 = .ok (.ireturn, 1) := by decide +kernel
theorem dX14_find_0 : decode cX14_find 0 = .ok (.iconst 1, 1) := by decide +kernel
theorem dX14_find_1 : decode cX14_find 1 = .ok (.istore 5, 2) := by decide +kernel
theorem dX14_find_3 : decode cX14_find 3 = .ok (.iload 4, 2) := by decide +kernel
theorem dX14_find_5 : decode cX14_find 5 = .ok (.ifCond .ne 34, 3) := by decide +kernel
theorem dX14_find_8 : decode cX14_find 8 = .ok (.iload_n 3, 1) := by decide +kernel
theorem dX14_find_9 : decode cX14_find 9 = .ok (.ifCond .eq 26, 3) := by decide +kernel
theorem dX14_find_12 : decode cX14_find 12 = .ok (.aload_n 2, 1) := by decide +kernel
theorem dX14_find_13 : decode cX14_find 13 = .ok (.iconst 0, 1) := by decide +kernel
theorem dX14_find_14 : decode cX14_find 14 = .ok (.iaload, 1) := by decide +kernel
theorem dX14_find_15 : decode cX14_find 15 = .ok (.aload_n 0, 1) := by decide +kernel
theorem dX14_find_16 : decode cX14_find 16 = .ok (.getfield 73, 3) := by decide +kernel
theorem dX14_find_19 : decode cX14_find 19 = .ok (.bipush 16, 2) := by decide +kernel
theorem dX14_find_21 : decode cX14_find 21 = .ok (.aload_n 0, 1) := by decide +kernel
theorem dX14_find_22 : decode cX14_find 22 = .ok (.getfield 127, 3) := by decide +kernel
theorem dX14_find_25 : decode cX14_find 25 = .ok (.imul, 1) := by decide +kernel
theorem dX14_find_26 : decode cX14_find 26 = .ok (.iload_n 1, 1) := by decide +kernel
theorem dX14_find_27 : decode cX14_find 27 = .ok (.iadd, 1) := by decide +kernel
theorem dX14_find_28 : decode cX14_find 28 = .ok (.iaload, 1) := by decide +kernel
theorem dX14_find_29 : decode cX14_find 29 = .ok (.bipush 64, 2) := by decide +kernel
theorem dX14_find_31 : decode cX14_find 31 = .ok (.iadd, 1) := by decide +kernel
theorem dX14_find_32 : decode cX14_find 32 = .ok (.if_icmp .eq 7, 3) := by decide +kernel
theorem dX14_find_35 : decode cX14_find 35 = .ok (.iconst 1, 1) := by decide +kernel
theorem dX14_find_36 : decode cX14_find 36 = .ok (.goto 4, 3) := by decide +kernel
theorem dX14_find_39 : decode cX14_find 39 = .ok (.iconst 0, 1) := by decide +kernel
theorem dX14_find_40 : decode cX14_find 40 = .ok (.istore 6, 2) := by decide +kernel
theorem dX14_find_42 : decode cX14_find 42 = .ok (.iconst 0, 1) := by decide +kernel
theorem dX14_find_43 : decode cX14_find 43 = .ok (.istore 7, 2) := by decide +kernel
theorem dX14_find_45 : decode cX14_find 45 = .ok (.iload 7, 2) := by decide +kernel
theorem dX14_find_47 : decode cX14_find 47 = .ok (.aload_n 0, 1) := by decide +kernel
theorem dX14_find_48 : decode cX14_find 48 = .ok (.getfield 79, 3) := by decide +kernel
theorem dX14_find_51 : decode cX14_find 51 = .ok (.bipush 16, 2) := by decide +kernel
theorem dX14_find_53 : decode cX14_find 53 = .ok (.aload_n 0, 1) := by decide +kernel
theorem dX14_find_54 : decode cX14_find 54 = .ok (.getfield 127, 3) := by decide +kernel
theorem dX14_find_57 : decode cX14_find 57 = .ok (.imul, 1) := by decide +kernel
theorem dX14_find_58 : decode cX14_find 58 = .ok (.iload_n 1, 1) := by decide +kernel
theorem dX14_find_59 : decode cX14_find 59 = .ok (.iadd, 1) := by decide +kernel
theorem dX14_find_60 : decode cX14_find 60 = .ok (.iaload, 1) := by decide +kernel
theorem dX14_find_61 : decode cX14_find 61 = .ok (.if_icmp .ge 323, 3) := by decide +kernel
theorem dX14_find_64 : decode cX14_find 64 = .ok (.bipush 8, 2) := by decide +kernel
theorem dX14_find_66 : decode cX14_find 66 = .ok (.iload_n 1, 1) := by decide +kernel
theorem dX14_find_67 : decode cX14_find 67 = .ok (.imul, 1) := by decide +kernel
theorem dX14_find_68 : decode cX14_find 68 = .ok (.iload 7, 2) := by decide +kernel
theorem dX14_find_70 : decode cX14_find 70 = .ok (.iadd, 1) := by decide +kernel
theorem dX14_find_71 : decode cX14_find 71 = .ok (.istore 8, 2) := by decide +kernel
theorem dX14_find_73 : decode cX14_find 73 = .ok (.aload_n 0, 1) := by decide +kernel
theorem dX14_find_74 : decode cX14_find 74 = .ok (.aload_n 0, 1) := by decide +kernel
theorem dX14_find_75 : decode cX14_find 75 = .ok (.getfield 127, 3) := by decide +kernel
theorem dX14_find_78 : decode cX14_find 78 = .ok (.aload_n 0, 1) := by decide +kernel
theorem dX14_find_79 : decode cX14_find 79 = .ok (.getfield 85, 3) := by decide +kernel
theorem dX14_find_82 : decode cX14_find 82 = .ok (.sipush 128, 3) := by decide +kernel
theorem dX14_find_85 : decode cX14_find 85 = .ok (.aload_n 0, 1) := by decide +kernel
theorem dX14_find_86 : decode cX14_find 86 = .ok (.getfield 127, 3) := by decide +kernel
theorem dX14_find_89 : decode cX14_find 89 = .ok (.imul, 1) := by decide +kernel
theorem dX14_find_90 : decode cX14_find 90 = .ok (.iload 8, 2) := by decide +kernel
theorem dX14_find_92 : decode cX14_find 92 = .ok (.iadd, 1) := by decide +kernel
theorem dX14_find_93 : decode cX14_find 93 = .ok (.iaload, 1) := by decide +kernel
theorem dX14_find_94 : decode cX14_find 94 = .ok (.invokevirtual 374, 3) := by decide +kernel
theorem dX14_find_97 : decode cX14_find 97 = .ok (.istore 9, 2) := by decide +kernel
theorem dX14_find_99 : decode cX14_find 99 = .ok (.aload_n 0, 1) := by decide +kernel
theorem dX14_find_100 : decode cX14_find 100 = .ok (.getfield 40, 3) := by decide +kernel
theorem dX14_find_103 : decode cX14_find 103 = .ok (.bipush 12, 2) := by decide +kernel
theorem dX14_find_105 : decode cX14_find 105 = .ok (.aload_n 0, 1) := by decide +kernel
theorem dX14_find_106 : decode cX14_find 106 = .ok (.getfield 127, 3) := by decide +kernel
theorem dX14_find_109 : decode cX14_find 109 = .ok (.imul, 1) := by decide +kernel
theorem dX14_find_110 : decode cX14_find 110 = .ok (.iload 9, 2) := by decide +kernel
theorem dX14_find_112 : decode cX14_find 112 = .ok (.iadd, 1) := by decide +kernel
theorem dX14_find_113 : decode cX14_find 113 = .ok (.iaload, 1) := by decide +kernel
theorem dX14_find_114 : decode cX14_find 114 = .ok (.istore 10, 2) := by decide +kernel
theorem dX14_find_116 : decode cX14_find 116 = .ok (.aload_n 0, 1) := by decide +kernel
theorem dX14_find_117 : decode cX14_find 117 = .ok (.iload 8, 2) := by decide +kernel
theorem dX14_find_119 : decode cX14_find 119 = .ok (.iload_n 1, 1) := by decide +kernel
theorem dX14_find_120 : decode cX14_find 120 = .ok (.invokevirtual 420, 3) := by decide +kernel
theorem dX14_find_123 : decode cX14_find 123 = .ok (.istore 11, 2) := by decide +kernel
theorem dX14_find_125 : decode cX14_find 125 = .ok (.aload_n 0, 1) := by decide +kernel
theorem dX14_find_126 : decode cX14_find 126 = .ok (.getfield 165, 3) := by decide +kernel
theorem dX14_find_129 : decode cX14_find 129 = .ok (.iload 7, 2) := by decide +kernel
theorem dX14_find_131 : decode cX14_find 131 = .ok (.iconst 0, 1) := by decide +kernel
theorem dX14_find_132 : decode cX14_find 132 = .ok (.bastore, 1) := by decide +kernel
theorem dX14_find_133 : decode cX14_find 133 = .ok (.iload 6, 2) := by decide +kernel
theorem dX14_find_135 : decode cX14_find 135 = .ok (.ifCond .ne 243, 3) := by decide +kernel
theorem dX14_find_138 : decode cX14_find 138 = .ok (.iload 11, 2) := by decide +kernel
theorem dX14_find_140 : decode cX14_find 140 = .ok (.ifCond .ne 6, 3) := by decide +kernel
theorem dX14_find_143 : decode cX14_find 143 = .ok (.goto 235, 3) := by decide +kernel
theorem dX14_find_146 : decode cX14_find 146 = .ok (.iload 5, 2) := by decide +kernel
theorem dX14_find_148 : decode cX14_find 148 = .ok (.iload 11, 2) := by decide +kernel
theorem dX14_find_150 : decode cX14_find 150 = .ok (.iload 10, 2) := by decide +kernel
theorem dX14_find_152 : decode cX14_find 152 = .ok (.imul, 1) := by decide +kernel
theorem dX14_find_153 : decode cX14_find 153 = .ok (.iadd, 1) := by decide +kernel
theorem dX14_find_154 : decode cX14_find 154 = .ok (.iload_n 3, 1) := by decide +kernel
theorem dX14_find_155 : decode cX14_find 155 = .ok (.if_icmp .le 7, 3) := by decide +kernel
theorem dX14_find_158 : decode cX14_find 158 = .ok (.iconst 1, 1) := by decide +kernel
theorem dX14_find_159 : decode cX14_find 159 = .ok (.goto 4, 3) := by decide +kernel
theorem dX14_find_162 : decode cX14_find 162 = .ok (.iconst 0, 1) := by decide +kernel
theorem dX14_find_163 : decode cX14_find 163 = .ok (.istore 6, 2) := by decide +kernel
theorem dX14_find_165 : decode cX14_find 165 = .ok (.iload 6, 2) := by decide +kernel
theorem dX14_find_167 : decode cX14_find 167 = .ok (.ifCond .eq 6, 3) := by decide +kernel
theorem dX14_find_170 : decode cX14_find 170 = .ok (.goto 208, 3) := by decide +kernel
theorem dX14_find_173 : decode cX14_find 173 = .ok (.aload_n 0, 1) := by decide +kernel
theorem dX14_find_174 : decode cX14_find 174 = .ok (.getfield 165, 3) := by decide +kernel
theorem dX14_find_177 : decode cX14_find 177 = .ok (.iload 7, 2) := by decide +kernel
theorem dX14_find_179 : decode cX14_find 179 = .ok (.iconst 1, 1) := by decide +kernel
theorem dX14_find_180 : decode cX14_find 180 = .ok (.bastore, 1) := by decide +kernel
theorem dX14_find_181 : decode cX14_find 181 = .ok (.aload_n 0, 1) := by decide +kernel
theorem dX14_find_182 : decode cX14_find 182 = .ok (.getfield 169, 3) := by decide +kernel
theorem dX14_find_185 : decode cX14_find 185 = .ok (.iload 7, 2) := by decide +kernel
theorem dX14_find_187 : decode cX14_find 187 = .ok (.iload 5, 2) := by decide +kernel
theorem dX14_find_189 : decode cX14_find 189 = .ok (.iastore, 1) := by decide +kernel
theorem dX14_find_190 : decode cX14_find 190 = .ok (.aload_n 0, 1) := by decide +kernel
theorem dX14_find_191 : decode cX14_find 191 = .ok (.getfield 172, 3) := by decide +kernel
theorem dX14_find_194 : decode cX14_find 194 = .ok (.iload 7, 2) := by decide +kernel
theorem dX14_find_196 : decode cX14_find 196 = .ok (.iload 11, 2) := by decide +kernel
theorem dX14_find_198 : decode cX14_find 198 = .ok (.iload 10, 2) := by decide +kernel
theorem dX14_find_200 : decode cX14_find 200 = .ok (.imul, 1) := by decide +kernel
theorem dX14_find_201 : decode cX14_find 201 = .ok (.iastore, 1) := by decide +kernel
theorem dX14_find_202 : decode cX14_find 202 = .ok (.iload 4, 2) := by decide +kernel
theorem dX14_find_204 : decode cX14_find 204 = .ok (.ifCond .eq 80, 3) := by decide +kernel
theorem dX14_find_207 : decode cX14_find 207 = .ok (.iconst 0, 1) := by decide +kernel
theorem dX14_find_208 : decode cX14_find 208 = .ok (.istore 12, 2) := by decide +kernel
theorem dX14_find_210 : decode cX14_find 210 = .ok (.iload 12, 2) := by decide +kernel
theorem dX14_find_212 : decode cX14_find 212 = .ok (.iload 11, 2) := by decide +kernel
theorem dX14_find_214 : decode cX14_find 214 = .ok (.iload 10, 2) := by decide +kernel
theorem dX14_find_216 : decode cX14_find 216 = .ok (.imul, 1) := by decide +kernel
theorem dX14_find_217 : decode cX14_find 217 = .ok (.if_icmp .ge 50, 3) := by decide +kernel
theorem dX14_find_220 : decode cX14_find 220 = .ok (.aload_n 2, 1) := by decide +kernel
theorem dX14_find_221 : decode cX14_find 221 = .ok (.iload 5, 2) := by decide +kernel
theorem dX14_find_223 : decode cX14_find 223 = .ok (.iload 12, 2) := by decide +kernel
theorem dX14_find_225 : decode cX14_find 225 = .ok (.iadd, 1) := by decide +kernel
theorem dX14_find_226 : decode cX14_find 226 = .ok (.iload 12, 2) := by decide +kernel
theorem dX14_find_228 : decode cX14_find 228 = .ok (.iload 10, 2) := by decide +kernel
theorem dX14_find_230 : decode cX14_find 230 = .ok (.if_icmp .ge 29, 3) := by decide +kernel
theorem dX14_find_233 : decode cX14_find 233 = .ok (.aload_n 0, 1) := by decide +kernel
theorem dX14_find_234 : decode cX14_find 234 = .ok (.getfield 161, 3) := by decide +kernel
theorem dX14_find_237 : decode cX14_find 237 = .ok (.iload 8, 2) := by decide +kernel
theorem dX14_find_239 : decode cX14_find 239 = .ok (.laload, 1) := by decide +kernel
theorem dX14_find_240 : decode cX14_find 240 = .ok (.bipush 8, 2) := by decide +kernel
theorem dX14_find_242 : decode cX14_find 242 = .ok (.iload 10, 2) := by decide +kernel
theorem dX14_find_244 : decode cX14_find 244 = .ok (.iconst 1, 1) := by decide +kernel
theorem dX14_find_245 : decode cX14_find 245 = .ok (.isub, 1) := by decide +kernel
theorem dX14_find_246 : decode cX14_find 246 = .ok (.iload 12, 2) := by decide +kernel
theorem dX14_find_248 : decode cX14_find 248 = .ok (.isub, 1) := by decide +kernel
theorem dX14_find_249 : decode cX14_find 249 = .ok (.imul, 1) := by decide +kernel
theorem dX14_find_250 : decode cX14_find 250 = .ok (.lshr, 1) := by decide +kernel
theorem dX14_find_251 : decode cX14_find 251 = .ok (.ldc2_w 423, 3) := by decide +kernel
theorem dX14_find_254 : decode cX14_find 254 = .ok (.land, 1) := by decide +kernel
theorem dX14_find_255 : decode cX14_find 255 = .ok (.l2i, 1) := by decide +kernel
theorem dX14_find_256 : decode cX14_find 256 = .ok (.goto 4, 3) := by decide +kernel
theorem dX14_find_259 : decode cX14_find 259 = .ok (.iconst 0, 1) := by decide +kernel
theorem dX14_find_260 : decode cX14_find 260 = .ok (.iastore, 1) := by decide +kernel
theorem dX14_find_261 : decode cX14_find 261 = .ok (.iinc 12 1, 3) := by decide +kernel
theorem dX14_find_264 : decode cX14_find 264 = .ok (.goto (-54), 3) := by decide +kernel
theorem dX14_find_267 : decode cX14_find 267 = .ok (.aload_n 0, 1) := by decide +kernel
theorem dX14_find_268 : decode cX14_find 268 = .ok (.getfield 175, 3) := by decide +kernel
theorem dX14_find_271 : decode cX14_find 271 = .ok (.iload 7, 2) := by decide +kernel
theorem dX14_find_273 : decode cX14_find 273 = .ok (.aload_n 0, 1) := by decide +kernel
theorem dX14_find_274 : decode cX14_find 274 = .ok (.getfield 161, 3) := by decide +kernel
theorem dX14_find_277 : decode cX14_find 277 = .ok (.iload 8, 2) := by decide +kernel
theorem dX14_find_279 : decode cX14_find 279 = .ok (.laload, 1) := by decide +kernel
theorem dX14_find_280 : decode cX14_find 280 = .ok (.lastore, 1) := by decide +kernel
theorem dX14_find_281 : decode cX14_find 281 = .ok (.goto 87, 3) := by decide +kernel
theorem dX14_find_284 : decode cX14_find 284 = .ok (.aload_n 0, 1) := by decide +kernel
theorem dX14_find_285 : decode cX14_find 285 = .ok (.getfield 175, 3) := by decide +kernel
theorem dX14_find_288 : decode cX14_find 288 = .ok (.iload 7, 2) := by decide +kernel
theorem dX14_find_290 : decode cX14_find 290 = .ok (.aload_n 0, 1) := by decide +kernel
theorem dX14_find_291 : decode cX14_find 291 = .ok (.getfield 43, 3) := by decide +kernel
theorem dX14_find_294 : decode cX14_find 294 = .ok (.bipush 12, 2) := by decide +kernel
theorem dX14_find_296 : decode cX14_find 296 = .ok (.aload_n 0, 1) := by decide +kernel
theorem dX14_find_297 : decode cX14_find 297 = .ok (.getfield 127, 3) := by decide +kernel
theorem dX14_find_300 : decode cX14_find 300 = .ok (.imul, 1) := by decide +kernel
theorem dX14_find_301 : decode cX14_find 301 = .ok (.iload 9, 2) := by decide +kernel
theorem dX14_find_303 : decode cX14_find 303 = .ok (.iadd, 1) := by decide +kernel
theorem dX14_find_304 : decode cX14_find 304 = .ok (.iaload, 1) := by decide +kernel
theorem dX14_find_305 : decode cX14_find 305 = .ok (.iconst 1, 1) := by decide +kernel
theorem dX14_find_306 : decode cX14_find 306 = .ok (.if_icmp .ne 18, 3) := by decide +kernel
theorem dX14_find_309 : decode cX14_find 309 = .ok (.aload_n 2, 1) := by decide +kernel
theorem dX14_find_310 : decode cX14_find 310 = .ok (.iload 5, 2) := by decide +kernel
theorem dX14_find_312 : decode cX14_find 312 = .ok (.iaload, 1) := by decide +kernel
theorem dX14_find_313 : decode cX14_find 313 = .ok (.bipush 127, 2) := by decide +kernel
theorem dX14_find_315 : decode cX14_find 315 = .ok (.if_icmp .le 9, 3) := by decide +kernel
theorem dX14_find_318 : decode cX14_find 318 = .ok (.ldc2_w 425, 3) := by decide +kernel
theorem dX14_find_321 : decode cX14_find 321 = .ok (.goto 4, 3) := by decide +kernel
theorem dX14_find_324 : decode cX14_find 324 = .ok (.lconst 0, 1) := by decide +kernel
theorem dX14_find_325 : decode cX14_find 325 = .ok (.lastore, 1) := by decide +kernel
theorem dX14_find_326 : decode cX14_find 326 = .ok (.iconst 0, 1) := by decide +kernel
theorem dX14_find_327 : decode cX14_find 327 = .ok (.istore 12, 2) := by decide +kernel
theorem dX14_find_329 : decode cX14_find 329 = .ok (.iload 12, 2) := by decide +kernel
theorem dX14_find_331 : decode cX14_find 331 = .ok (.iload 10, 2) := by decide +kernel
theorem dX14_find_333 : decode cX14_find 333 = .ok (.if_icmp .ge 35, 3) := by decide +kernel
theorem dX14_find_336 : decode cX14_find 336 = .ok (.aload_n 0, 1) := by decide +kernel
theorem dX14_find_337 : decode cX14_find 337 = .ok (.getfield 175, 3) := by decide +kernel
theorem dX14_find_340 : decode cX14_find 340 = .ok (.iload 7, 2) := by decide +kernel
theorem dX14_find_342 : decode cX14_find 342 = .ok (.aload_n 0, 1) := by decide +kernel
theorem dX14_find_343 : decode cX14_find 343 = .ok (.getfield 175, 3) := by decide +kernel
theorem dX14_find_346 : decode cX14_find 346 = .ok (.iload 7, 2) := by decide +kernel
theorem dX14_find_348 : decode cX14_find 348 = .ok (.laload, 1) := by decide +kernel
theorem dX14_find_349 : decode cX14_find 349 = .ok (.bipush 8, 2) := by decide +kernel
theorem dX14_find_351 : decode cX14_find 351 = .ok (.lshl, 1) := by decide +kernel
theorem dX14_find_352 : decode cX14_find 352 = .ok (.aload_n 2, 1) := by decide +kernel
theorem dX14_find_353 : decode cX14_find 353 = .ok (.iload 5, 2) := by decide +kernel
theorem dX14_find_355 : decode cX14_find 355 = .ok (.iload 12, 2) := by decide +kernel
theorem dX14_find_357 : decode cX14_find 357 = .ok (.iadd, 1) := by decide +kernel
theorem dX14_find_358 : decode cX14_find 358 = .ok (.iaload, 1) := by decide +kernel
theorem dX14_find_359 : decode cX14_find 359 = .ok (.i2l, 1) := by decide +kernel
theorem dX14_find_360 : decode cX14_find 360 = .ok (.lor, 1) := by decide +kernel
theorem dX14_find_361 : decode cX14_find 361 = .ok (.lastore, 1) := by decide +kernel
theorem dX14_find_362 : decode cX14_find 362 = .ok (.iinc 12 1, 3) := by decide +kernel
theorem dX14_find_365 : decode cX14_find 365 = .ok (.goto (-36), 3) := by decide +kernel
theorem dX14_find_368 : decode cX14_find 368 = .ok (.iload 5, 2) := by decide +kernel
theorem dX14_find_370 : decode cX14_find 370 = .ok (.iload 11, 2) := by decide +kernel
theorem dX14_find_372 : decode cX14_find 372 = .ok (.iload 10, 2) := by decide +kernel
theorem dX14_find_374 : decode cX14_find 374 = .ok (.imul, 1) := by decide +kernel
theorem dX14_find_375 : decode cX14_find 375 = .ok (.iadd, 1) := by decide +kernel
theorem dX14_find_376 : decode cX14_find 376 = .ok (.istore 5, 2) := by decide +kernel
theorem dX14_find_378 : decode cX14_find 378 = .ok (.iinc 7 1, 3) := by decide +kernel
theorem dX14_find_381 : decode cX14_find 381 = .ok (.goto (-336), 3) := by decide +kernel
theorem dX14_find_384 : decode cX14_find 384 = .ok (.iload 5, 2) := by decide +kernel
theorem dX14_find_386 : decode cX14_find 386 = .ok (.ireturn, 1) := by decide +kernel
theorem dX14_common_0 : decode cX14_common 0 = .ok (.lload_n 0, 1) := by decide +kernel
theorem dX14_common_1 : decode cX14_common 1 = .ok (.lconst 0, 1) := by decide +kernel
theorem dX14_common_2 : decode cX14_common 2 = .ok (.lcmp, 1) := by decide +kernel
theorem dX14_common_3 : decode cX14_common 3 = .ok (.ifCond .ge 8, 3) := by decide +kernel
theorem dX14_common_6 : decode cX14_common 6 = .ok (.lload_n 0, 1) := by decide +kernel
theorem dX14_common_7 : decode cX14_common 7 = .ok (.lneg, 1) := by decide +kernel
theorem dX14_common_8 : decode cX14_common 8 = .ok (.goto 4, 3) := by decide +kernel
theorem dX14_common_11 : decode cX14_common 11 = .ok (.lload_n 0, 1) := by decide +kernel
theorem dX14_common_12 : decode cX14_common 12 = .ok (.lstore 4, 2) := by decide +kernel
theorem dX14_common_14 : decode cX14_common 14 = .ok (.lload_n 2, 1) := by decide +kernel
theorem dX14_common_15 : decode cX14_common 15 = .ok (.lstore 6, 2) := by decide +kernel
theorem dX14_common_17 : decode cX14_common 17 = .ok (.lload 6, 2) := by decide +kernel
theorem dX14_common_19 : decode cX14_common 19 = .ok (.lconst 0, 1) := by decide +kernel
theorem dX14_common_20 : decode cX14_common 20 = .ok (.lcmp, 1) := by decide +kernel
theorem dX14_common_21 : decode cX14_common 21 = .ok (.ifCond .eq 21, 3) := by decide +kernel
theorem dX14_common_24 : decode cX14_common 24 = .ok (.lload 4, 2) := by decide +kernel
theorem dX14_common_26 : decode cX14_common 26 = .ok (.lload 6, 2) := by decide +kernel
theorem dX14_common_28 : decode cX14_common 28 = .ok (.lrem, 1) := by decide +kernel
theorem dX14_common_29 : decode cX14_common 29 = .ok (.lstore 8, 2) := by decide +kernel
theorem dX14_common_31 : decode cX14_common 31 = .ok (.lload 6, 2) := by decide +kernel
theorem dX14_common_33 : decode cX14_common 33 = .ok (.lstore 4, 2) := by decide +kernel
theorem dX14_common_35 : decode cX14_common 35 = .ok (.lload 8, 2) := by decide +kernel
theorem dX14_common_37 : decode cX14_common 37 = .ok (.lstore 6, 2) := by decide +kernel
theorem dX14_common_39 : decode cX14_common 39 = .ok (.goto (-22), 3) := by decide +kernel
theorem dX14_common_42 : decode cX14_common 42 = .ok (.lload 4, 2) := by decide +kernel
theorem dX14_common_44 : decode cX14_common 44 = .ok (.lreturn, 1) := by decide +kernel
theorem dX14_above_0 : decode cX14_above 0 = .ok (.aload_n 0, 1) := by decide +kernel
theorem dX14_above_1 : decode cX14_above 1 = .ok (.getfield 43, 3) := by decide +kernel
theorem dX14_above_4 : decode cX14_above 4 = .ok (.bipush 12, 2) := by decide +kernel
theorem dX14_above_6 : decode cX14_above 6 = .ok (.aload_n 0, 1) := by decide +kernel
theorem dX14_above_7 : decode cX14_above 7 = .ok (.getfield 127, 3) := by decide +kernel
theorem dX14_above_10 : decode cX14_above 10 = .ok (.imul, 1) := by decide +kernel
theorem dX14_above_11 : decode cX14_above 11 = .ok (.iload_n 1, 1) := by decide +kernel
theorem dX14_above_12 : decode cX14_above 12 = .ok (.iadd, 1) := by decide +kernel
theorem dX14_above_13 : decode cX14_above 13 = .ok (.iaload, 1) := by decide +kernel
theorem dX14_above_14 : decode cX14_above 14 = .ok (.iconst 2, 1) := by decide +kernel
theorem dX14_above_15 : decode cX14_above 15 = .ok (.if_icmp .ne 55, 3) := by decide +kernel
theorem dX14_above_18 : decode cX14_above 18 = .ok (.lload_n 2, 1) := by decide +kernel
theorem dX14_above_19 : decode cX14_above 19 = .ok (.aload_n 0, 1) := by decide +kernel
theorem dX14_above_20 : decode cX14_above 20 = .ok (.getfield 46, 3) := by decide +kernel
theorem dX14_above_23 : decode cX14_above 23 = .ok (.bipush 12, 2) := by decide +kernel
theorem dX14_above_25 : decode cX14_above 25 = .ok (.aload_n 0, 1) := by decide +kernel
theorem dX14_above_26 : decode cX14_above 26 = .ok (.getfield 127, 3) := by decide +kernel
theorem dX14_above_29 : decode cX14_above 29 = .ok (.imul, 1) := by decide +kernel
theorem dX14_above_30 : decode cX14_above 30 = .ok (.iload_n 1, 1) := by decide +kernel
theorem dX14_above_31 : decode cX14_above 31 = .ok (.iadd, 1) := by decide +kernel
theorem dX14_above_32 : decode cX14_above 32 = .ok (.iaload, 1) := by decide +kernel
theorem dX14_above_33 : decode cX14_above 33 = .ok (.i2l, 1) := by decide +kernel
theorem dX14_above_34 : decode cX14_above 34 = .ok (.lmul, 1) := by decide +kernel
theorem dX14_above_35 : decode cX14_above 35 = .ok (.aload_n 0, 1) := by decide +kernel
theorem dX14_above_36 : decode cX14_above 36 = .ok (.getfield 52, 3) := by decide +kernel
theorem dX14_above_39 : decode cX14_above 39 = .ok (.bipush 12, 2) := by decide +kernel
theorem dX14_above_41 : decode cX14_above 41 = .ok (.aload_n 0, 1) := by decide +kernel
theorem dX14_above_42 : decode cX14_above 42 = .ok (.getfield 127, 3) := by decide +kernel
theorem dX14_above_45 : decode cX14_above 45 = .ok (.imul, 1) := by decide +kernel
theorem dX14_above_46 : decode cX14_above 46 = .ok (.iload_n 1, 1) := by decide +kernel
theorem dX14_above_47 : decode cX14_above 47 = .ok (.iadd, 1) := by decide +kernel
theorem dX14_above_48 : decode cX14_above 48 = .ok (.iaload, 1) := by decide +kernel
theorem dX14_above_49 : decode cX14_above 49 = .ok (.i2l, 1) := by decide +kernel
theorem dX14_above_50 : decode cX14_above 50 = .ok (.aload_n 0, 1) := by decide +kernel
theorem dX14_above_51 : decode cX14_above 51 = .ok (.getfield 49, 3) := by decide +kernel
theorem dX14_above_54 : decode cX14_above 54 = .ok (.bipush 12, 2) := by decide +kernel
theorem dX14_above_56 : decode cX14_above 56 = .ok (.aload_n 0, 1) := by decide +kernel
theorem dX14_above_57 : decode cX14_above 57 = .ok (.getfield 127, 3) := by decide +kernel
theorem dX14_above_60 : decode cX14_above 60 = .ok (.imul, 1) := by decide +kernel
theorem dX14_above_61 : decode cX14_above 61 = .ok (.iload_n 1, 1) := by decide +kernel
theorem dX14_above_62 : decode cX14_above 62 = .ok (.iadd, 1) := by decide +kernel
theorem dX14_above_63 : decode cX14_above 63 = .ok (.iaload, 1) := by decide +kernel
theorem dX14_above_64 : decode cX14_above 64 = .ok (.i2l, 1) := by decide +kernel
theorem dX14_above_65 : decode cX14_above 65 = .ok (.lmul, 1) := by decide +kernel
theorem dX14_above_66 : decode cX14_above 66 = .ok (.ladd, 1) := by decide +kernel
theorem dX14_above_67 : decode cX14_above 67 = .ok (.goto 4, 3) := by decide +kernel
theorem dX14_above_70 : decode cX14_above 70 = .ok (.lload_n 2, 1) := by decide +kernel
theorem dX14_above_71 : decode cX14_above 71 = .ok (.lreturn, 1) := by decide +kernel
theorem dX14_below_0 : decode cX14_below 0 = .ok (.aload_n 0, 1) := by decide +kernel
theorem dX14_below_1 : decode cX14_below 1 = .ok (.getfield 43, 3) := by decide +kernel
theorem dX14_below_4 : decode cX14_below 4 = .ok (.bipush 12, 2) := by decide +kernel
theorem dX14_below_6 : decode cX14_below 6 = .ok (.aload_n 0, 1) := by decide +kernel
theorem dX14_below_7 : decode cX14_below 7 = .ok (.getfield 127, 3) := by decide +kernel
theorem dX14_below_10 : decode cX14_below 10 = .ok (.imul, 1) := by decide +kernel
theorem dX14_below_11 : decode cX14_below 11 = .ok (.iload_n 1, 1) := by decide +kernel
theorem dX14_below_12 : decode cX14_below 12 = .ok (.iadd, 1) := by decide +kernel
theorem dX14_below_13 : decode cX14_below 13 = .ok (.iaload, 1) := by decide +kernel
theorem dX14_below_14 : decode cX14_below 14 = .ok (.iconst 2, 1) := by decide +kernel
theorem dX14_below_15 : decode cX14_below 15 = .ok (.if_icmp .ne 20, 3) := by decide +kernel
theorem dX14_below_18 : decode cX14_below 18 = .ok (.aload_n 0, 1) := by decide +kernel
theorem dX14_below_19 : decode cX14_below 19 = .ok (.getfield 49, 3) := by decide +kernel
theorem dX14_below_22 : decode cX14_below 22 = .ok (.bipush 12, 2) := by decide +kernel
theorem dX14_below_24 : decode cX14_below 24 = .ok (.aload_n 0, 1) := by decide +kernel
theorem dX14_below_25 : decode cX14_below 25 = .ok (.getfield 127, 3) := by decide +kernel
theorem dX14_below_28 : decode cX14_below 28 = .ok (.imul, 1) := by decide +kernel
theorem dX14_below_29 : decode cX14_below 29 = .ok (.iload_n 1, 1) := by decide +kernel
theorem dX14_below_30 : decode cX14_below 30 = .ok (.iadd, 1) := by decide +kernel
theorem dX14_below_31 : decode cX14_below 31 = .ok (.iaload, 1) := by decide +kernel
theorem dX14_below_32 : decode cX14_below 32 = .ok (.goto 4, 3) := by decide +kernel
theorem dX14_below_35 : decode cX14_below 35 = .ok (.iconst 1, 1) := by decide +kernel
theorem dX14_below_36 : decode cX14_below 36 = .ok (.ireturn, 1) := by decide +kernel
theorem dX14_decode_0 : decode cX14_decode 0 = .ok (.aload_n 0, 1) := by decide +kernel
theorem dX14_decode_1 : decode cX14_decode 1 = .ok (.iconst 0, 1) := by decide +kernel
theorem dX14_decode_2 : decode cX14_decode 2 = .ok (.putfield 181, 3) := by decide +kernel
theorem dX14_decode_5 : decode cX14_decode 5 = .ok (.aload_n 0, 1) := by decide +kernel
theorem dX14_decode_6 : decode cX14_decode 6 = .ok (.iload_n 1, 1) := by decide +kernel
theorem dX14_decode_7 : decode cX14_decode 7 = .ok (.iload_n 2, 1) := by decide +kernel
theorem dX14_decode_8 : decode cX14_decode 8 = .ok (.invokevirtual 412, 3) := by decide +kernel
theorem dX14_decode_11 : decode cX14_decode 11 = .ok (.ifCond .ne 7, 3) := by decide +kernel
theorem dX14_decode_14 : decode cX14_decode 14 = .ok (.ldc2_w 425, 3) := by decide +kernel
theorem dX14_decode_17 : decode cX14_decode 17 = .ok (.lreturn, 1) := by decide +kernel
theorem dX14_decode_18 : decode cX14_decode 18 = .ok (.iload_n 3, 1) := by decide +kernel
theorem dX14_decode_19 : decode cX14_decode 19 = .ok (.ifCond .lt 8, 3) := by decide +kernel
theorem dX14_decode_22 : decode cX14_decode 22 = .ok (.iload_n 3, 1) := by decide +kernel
theorem dX14_decode_23 : decode cX14_decode 23 = .ok (.iconst 4, 1) := by decide +kernel
theorem dX14_decode_24 : decode cX14_decode 24 = .ok (.if_icmp .le 7, 3) := by decide +kernel
theorem dX14_decode_27 : decode cX14_decode 27 = .ok (.ldc2_w 427, 3) := by decide +kernel
theorem dX14_decode_30 : decode cX14_decode 30 = .ok (.lreturn, 1) := by decide +kernel
theorem dX14_decode_31 : decode cX14_decode 31 = .ok (.iload_n 2, 1) := by decide +kernel
theorem dX14_decode_32 : decode cX14_decode 32 = .ok (.iconst 1, 1) := by decide +kernel
theorem dX14_decode_33 : decode cX14_decode 33 = .ok (.isub, 1) := by decide +kernel
theorem dX14_decode_34 : decode cX14_decode 34 = .ok (.istore 4, 2) := by decide +kernel
theorem dX14_decode_36 : decode cX14_decode 36 = .ok (.aload_n 0, 1) := by decide +kernel
theorem dX14_decode_37 : decode cX14_decode 37 = .ok (.iload_n 1, 1) := by decide +kernel
theorem dX14_decode_38 : decode cX14_decode 38 = .ok (.iconst 1, 1) := by decide +kernel
theorem dX14_decode_39 : decode cX14_decode 39 = .ok (.isub, 1) := by decide +kernel
theorem dX14_decode_40 : decode cX14_decode 40 = .ok (.aload_n 0, 1) := by decide +kernel
theorem dX14_decode_41 : decode cX14_decode 41 = .ok (.getfield 155, 3) := by decide +kernel
theorem dX14_decode_44 : decode cX14_decode 44 = .ok (.aload_n 0, 1) := by decide +kernel
theorem dX14_decode_45 : decode cX14_decode 45 = .ok (.getfield 415, 3) := by decide +kernel
theorem dX14_decode_48 : decode cX14_decode 48 = .ok (.iconst 0, 1) := by decide +kernel
theorem dX14_decode_49 : decode cX14_decode 49 = .ok (.invokevirtual 429, 3) := by decide +kernel
theorem dX14_decode_52 : decode cX14_decode 52 = .ok (.istore 5, 2) := by decide +kernel
theorem dX14_decode_54 : decode cX14_decode 54 = .ok (.aload_n 0, 1) := by decide +kernel
theorem dX14_decode_55 : decode cX14_decode 55 = .ok (.getfield 165, 3) := by decide +kernel
theorem dX14_decode_58 : decode cX14_decode 58 = .ok (.iload 4, 2) := by decide +kernel
theorem dX14_decode_60 : decode cX14_decode 60 = .ok (.baload, 1) := by decide +kernel
theorem dX14_decode_61 : decode cX14_decode 61 = .ok (.ifCond .ne 16, 3) := by decide +kernel
theorem dX14_decode_64 : decode cX14_decode 64 = .ok (.iload_n 3, 1) := by decide +kernel
theorem dX14_decode_65 : decode cX14_decode 65 = .ok (.iconst 2, 1) := by decide +kernel
theorem dX14_decode_66 : decode cX14_decode 66 = .ok (.if_icmp .ne 9, 3) := by decide +kernel
theorem dX14_decode_69 : decode cX14_decode 69 = .ok (.ldc2_w 425, 3) := by decide +kernel
theorem dX14_decode_72 : decode cX14_decode 72 = .ok (.goto 4, 3) := by decide +kernel
theorem dX14_decode_75 : decode cX14_decode 75 = .ok (.lconst 0, 1) := by decide +kernel
theorem dX14_decode_76 : decode cX14_decode 76 = .ok (.lreturn, 1) := by decide +kernel
theorem dX14_decode_77 : decode cX14_decode 77 = .ok (.aload_n 0, 1) := by decide +kernel
theorem dX14_decode_78 : decode cX14_decode 78 = .ok (.aload_n 0, 1) := by decide +kernel
theorem dX14_decode_79 : decode cX14_decode 79 = .ok (.getfield 127, 3) := by decide +kernel
theorem dX14_decode_82 : decode cX14_decode 82 = .ok (.aload_n 0, 1) := by decide +kernel
theorem dX14_decode_83 : decode cX14_decode 83 = .ok (.getfield 85, 3) := by decide +kernel
theorem dX14_decode_86 : decode cX14_decode 86 = .ok (.sipush 128, 3) := by decide +kernel
theorem dX14_decode_89 : decode cX14_decode 89 = .ok (.aload_n 0, 1) := by decide +kernel
theorem dX14_decode_90 : decode cX14_decode 90 = .ok (.getfield 127, 3) := by decide +kernel
theorem dX14_decode_93 : decode cX14_decode 93 = .ok (.imul, 1) := by decide +kernel
theorem dX14_decode_94 : decode cX14_decode 94 = .ok (.bipush 8, 2) := by decide +kernel
theorem dX14_decode_96 : decode cX14_decode 96 = .ok (.iload_n 1, 1) := by decide +kernel
theorem dX14_decode_97 : decode cX14_decode 97 = .ok (.iconst 1, 1) := by decide +kernel
theorem dX14_decode_98 : decode cX14_decode 98 = .ok (.isub, 1) := by decide +kernel
theorem dX14_decode_99 : decode cX14_decode 99 = .ok (.imul, 1) := by decide +kernel
theorem dX14_decode_100 : decode cX14_decode 100 = .ok (.iadd, 1) := by decide +kernel
theorem dX14_decode_101 : decode cX14_decode 101 = .ok (.iload 4, 2) := by decide +kernel
theorem dX14_decode_103 : decode cX14_decode 103 = .ok (.iadd, 1) := by decide +kernel
theorem dX14_decode_104 : decode cX14_decode 104 = .ok (.iaload, 1) := by decide +kernel
theorem dX14_decode_105 : decode cX14_decode 105 = .ok (.invokevirtual 374, 3) := by decide +kernel
theorem dX14_decode_108 : decode cX14_decode 108 = .ok (.istore 6, 2) := by decide +kernel
theorem dX14_decode_110 : decode cX14_decode 110 = .ok (.aload_n 0, 1) := by decide +kernel
theorem dX14_decode_111 : decode cX14_decode 111 = .ok (.iload 6, 2) := by decide +kernel
theorem dX14_decode_113 : decode cX14_decode 113 = .ok (.aload_n 0, 1) := by decide +kernel
theorem dX14_decode_114 : decode cX14_decode 114 = .ok (.getfield 175, 3) := by decide +kernel
theorem dX14_decode_117 : decode cX14_decode 117 = .ok (.iload 4, 2) := by decide +kernel
theorem dX14_decode_119 : decode cX14_decode 119 = .ok (.laload, 1) := by decide +kernel
theorem dX14_decode_120 : decode cX14_decode 120 = .ok (.invokevirtual 433, 3) := by decide +kernel
theorem dX14_decode_123 : decode cX14_decode 123 = .ok (.lstore 7, 2) := by decide +kernel
theorem dX14_decode_125 : decode cX14_decode 125 = .ok (.aload_n 0, 1) := by decide +kernel
theorem dX14_decode_126 : decode cX14_decode 126 = .ok (.iload 6, 2) := by decide +kernel
theorem dX14_decode_128 : decode cX14_decode 128 = .ok (.invokevirtual 437, 3) := by decide +kernel
theorem dX14_decode_131 : decode cX14_decode 131 = .ok (.i2l, 1) := by decide +kernel
theorem dX14_decode_132 : decode cX14_decode 132 = .ok (.lstore 9, 2) := by decide +kernel
theorem dX14_decode_134 : decode cX14_decode 134 = .ok (.lload 7, 2) := by decide +kernel
theorem dX14_decode_136 : decode cX14_decode 136 = .ok (.lload 9, 2) := by decide +kernel
theorem dX14_decode_138 : decode cX14_decode 138 = .ok (.invokestatic 441, 3) := by decide +kernel
theorem dX14_decode_141 : decode cX14_decode 141 = .ok (.lstore 11, 2) := by decide +kernel
theorem dX14_decode_143 : decode cX14_decode 143 = .ok (.iload_n 3, 1) := by decide +kernel
theorem dX14_decode_144 : decode cX14_decode 144 = .ok (.tableswitch 62 0 3 #[32, 38, 44, 53], 32) := by decide +kernel
theorem dX14_decode_176 : decode cX14_decode 176 = .ok (.lload 7, 2) := by decide +kernel
theorem dX14_decode_178 : decode cX14_decode 178 = .ok (.lload 11, 2) := by decide +kernel
theorem dX14_decode_180 : decode cX14_decode 180 = .ok (.ldiv, 1) := by decide +kernel
theorem dX14_decode_181 : decode cX14_decode 181 = .ok (.lreturn, 1) := by decide +kernel
theorem dX14_decode_182 : decode cX14_decode 182 = .ok (.lload 9, 2) := by decide +kernel
theorem dX14_decode_184 : decode cX14_decode 184 = .ok (.lload 11, 2) := by decide +kernel
theorem dX14_decode_186 : decode cX14_decode 186 = .ok (.ldiv, 1) := by decide +kernel
theorem dX14_decode_187 : decode cX14_decode 187 = .ok (.lreturn, 1) := by decide +kernel
theorem dX14_decode_188 : decode cX14_decode 188 = .ok (.aload_n 0, 1) := by decide +kernel
theorem dX14_decode_189 : decode cX14_decode 189 = .ok (.getfield 169, 3) := by decide +kernel
theorem dX14_decode_192 : decode cX14_decode 192 = .ok (.iload 4, 2) := by decide +kernel
theorem dX14_decode_194 : decode cX14_decode 194 = .ok (.iaload, 1) := by decide +kernel
theorem dX14_decode_195 : decode cX14_decode 195 = .ok (.i2l, 1) := by decide +kernel
theorem dX14_decode_196 : decode cX14_decode 196 = .ok (.lreturn, 1) := by decide +kernel
theorem dX14_decode_197 : decode cX14_decode 197 = .ok (.aload_n 0, 1) := by decide +kernel
theorem dX14_decode_198 : decode cX14_decode 198 = .ok (.getfield 172, 3) := by decide +kernel
theorem dX14_decode_201 : decode cX14_decode 201 = .ok (.iload 4, 2) := by decide +kernel
theorem dX14_decode_203 : decode cX14_decode 203 = .ok (.iaload, 1) := by decide +kernel
theorem dX14_decode_204 : decode cX14_decode 204 = .ok (.i2l, 1) := by decide +kernel
theorem dX14_decode_205 : decode cX14_decode 205 = .ok (.lreturn, 1) := by decide +kernel
theorem dX14_decode_206 : decode cX14_decode 206 = .ok (.iconst 0, 1) := by decide +kernel
theorem dX14_decode_207 : decode cX14_decode 207 = .ok (.istore 13, 2) := by decide +kernel
theorem dX14_decode_209 : decode cX14_decode 209 = .ok (.iload 13, 2) := by decide +kernel
theorem dX14_decode_211 : decode cX14_decode 211 = .ok (.aload_n 0, 1) := by decide +kernel
theorem dX14_decode_212 : decode cX14_decode 212 = .ok (.getfield 55, 3) := by decide +kernel
theorem dX14_decode_215 : decode cX14_decode 215 = .ok (.bipush 12, 2) := by decide +kernel
theorem dX14_decode_217 : decode cX14_decode 217 = .ok (.aload_n 0, 1) := by decide +kernel
theorem dX14_decode_218 : decode cX14_decode 218 = .ok (.getfield 127, 3) := by decide +kernel
theorem dX14_decode_221 : decode cX14_decode 221 = .ok (.imul, 1) := by decide +kernel
theorem dX14_decode_222 : decode cX14_decode 222 = .ok (.iload 6, 2) := by decide +kernel
theorem dX14_decode_224 : decode cX14_decode 224 = .ok (.iadd, 1) := by decide +kernel
theorem dX14_decode_225 : decode cX14_decode 225 = .ok (.iaload, 1) := by decide +kernel
theorem dX14_decode_226 : decode cX14_decode 226 = .ok (.if_icmp .ge 65, 3) := by decide +kernel
theorem dX14_decode_229 : decode cX14_decode 229 = .ok (.aload_n 0, 1) := by decide +kernel
theorem dX14_decode_230 : decode cX14_decode 230 = .ok (.getfield 58, 3) := by decide +kernel
theorem dX14_decode_233 : decode cX14_decode 233 = .ok (.bipush 96, 2) := by decide +kernel
theorem dX14_decode_235 : decode cX14_decode 235 = .ok (.aload_n 0, 1) := by decide +kernel
theorem dX14_decode_236 : decode cX14_decode 236 = .ok (.getfield 127, 3) := by decide +kernel
theorem dX14_decode_239 : decode cX14_decode 239 = .ok (.imul, 1) := by decide +kernel
theorem dX14_decode_240 : decode cX14_decode 240 = .ok (.bipush 8, 2) := by decide +kernel
theorem dX14_decode_242 : decode cX14_decode 242 = .ok (.iload 6, 2) := by decide +kernel
theorem dX14_decode_244 : decode cX14_decode 244 = .ok (.imul, 1) := by decide +kernel
theorem dX14_decode_245 : decode cX14_decode 245 = .ok (.iadd, 1) := by decide +kernel
theorem dX14_decode_246 : decode cX14_decode 246 = .ok (.iload 13, 2) := by decide +kernel
theorem dX14_decode_248 : decode cX14_decode 248 = .ok (.iadd, 1) := by decide +kernel
theorem dX14_decode_249 : decode cX14_decode 249 = .ok (.iaload, 1) := by decide +kernel
theorem dX14_decode_250 : decode cX14_decode 250 = .ok (.i2l, 1) := by decide +kernel
theorem dX14_decode_251 : decode cX14_decode 251 = .ok (.aload_n 0, 1) := by decide +kernel
theorem dX14_decode_252 : decode cX14_decode 252 = .ok (.getfield 175, 3) := by decide +kernel
theorem dX14_decode_255 : decode cX14_decode 255 = .ok (.iload 4, 2) := by decide +kernel
theorem dX14_decode_257 : decode cX14_decode 257 = .ok (.laload, 1) := by decide +kernel
theorem dX14_decode_258 : decode cX14_decode 258 = .ok (.lcmp, 1) := by decide +kernel
theorem dX14_decode_259 : decode cX14_decode 259 = .ok (.ifCond .ne 26, 3) := by decide +kernel
theorem dX14_decode_262 : decode cX14_decode 262 = .ok (.aload_n 0, 1) := by decide +kernel
theorem dX14_decode_263 : decode cX14_decode 263 = .ok (.getfield 61, 3) := by decide +kernel
theorem dX14_decode_266 : decode cX14_decode 266 = .ok (.bipush 96, 2) := by decide +kernel
theorem dX14_decode_268 : decode cX14_decode 268 = .ok (.aload_n 0, 1) := by decide +kernel
theorem dX14_decode_269 : decode cX14_decode 269 = .ok (.getfield 127, 3) := by decide +kernel
theorem dX14_decode_272 : decode cX14_decode 272 = .ok (.imul, 1) := by decide +kernel
theorem dX14_decode_273 : decode cX14_decode 273 = .ok (.bipush 8, 2) := by decide +kernel
theorem dX14_decode_275 : decode cX14_decode 275 = .ok (.iload 6, 2) := by decide +kernel
theorem dX14_decode_277 : decode cX14_decode 277 = .ok (.imul, 1) := by decide +kernel
theorem dX14_decode_278 : decode cX14_decode 278 = .ok (.iadd, 1) := by decide +kernel
theorem dX14_decode_279 : decode cX14_decode 279 = .ok (.iload 13, 2) := by decide +kernel
theorem dX14_decode_281 : decode cX14_decode 281 = .ok (.iadd, 1) := by decide +kernel
theorem dX14_decode_282 : decode cX14_decode 282 = .ok (.iaload, 1) := by decide +kernel
theorem dX14_decode_283 : decode cX14_decode 283 = .ok (.i2l, 1) := by decide +kernel
theorem dX14_decode_284 : decode cX14_decode 284 = .ok (.lreturn, 1) := by decide +kernel
theorem dX14_decode_285 : decode cX14_decode 285 = .ok (.iinc 13 1, 3) := by decide +kernel
theorem dX14_decode_288 : decode cX14_decode 288 = .ok (.goto (-79), 3) := by decide +kernel
theorem dX14_decode_291 : decode cX14_decode 291 = .ok (.lconst 0, 1) := by decide +kernel
theorem dX14_decode_292 : decode cX14_decode 292 = .ok (.lreturn, 1) := by decide +kernel
theorem dX14_encode_0 : decode cX14_encode 0 = .ok (.aload_n 0, 1) := by decide +kernel
theorem dX14_encode_1 : decode cX14_encode 1 = .ok (.iconst 0, 1) := by decide +kernel
theorem dX14_encode_2 : decode cX14_encode 2 = .ok (.putfield 181, 3) := by decide +kernel
theorem dX14_encode_5 : decode cX14_encode 5 = .ok (.aload_n 0, 1) := by decide +kernel
theorem dX14_encode_6 : decode cX14_encode 6 = .ok (.iload_n 1, 1) := by decide +kernel
theorem dX14_encode_7 : decode cX14_encode 7 = .ok (.iload_n 2, 1) := by decide +kernel
theorem dX14_encode_8 : decode cX14_encode 8 = .ok (.invokevirtual 412, 3) := by decide +kernel
theorem dX14_encode_11 : decode cX14_encode 11 = .ok (.ifCond .ne 5, 3) := by decide +kernel
theorem dX14_encode_14 : decode cX14_encode 14 = .ok (.iconst (-1), 1) := by decide +kernel
theorem dX14_encode_15 : decode cX14_encode 15 = .ok (.ireturn, 1) := by decide +kernel
theorem dX14_encode_16 : decode cX14_encode 16 = .ok (.bipush 8, 2) := by decide +kernel
theorem dX14_encode_18 : decode cX14_encode 18 = .ok (.iload_n 1, 1) := by decide +kernel
theorem dX14_encode_19 : decode cX14_encode 19 = .ok (.iconst 1, 1) := by decide +kernel
theorem dX14_encode_20 : decode cX14_encode 20 = .ok (.isub, 1) := by decide +kernel
theorem dX14_encode_21 : decode cX14_encode 21 = .ok (.imul, 1) := by decide +kernel
theorem dX14_encode_22 : decode cX14_encode 22 = .ok (.iload_n 2, 1) := by decide +kernel
theorem dX14_encode_23 : decode cX14_encode 23 = .ok (.iadd, 1) := by decide +kernel
theorem dX14_encode_24 : decode cX14_encode 24 = .ok (.iconst 1, 1) := by decide +kernel
theorem dX14_encode_25 : decode cX14_encode 25 = .ok (.isub, 1) := by decide +kernel
theorem dX14_encode_26 : decode cX14_encode 26 = .ok (.istore 5, 2) := by decide +kernel
theorem dX14_encode_28 : decode cX14_encode 28 = .ok (.aload_n 0, 1) := by decide +kernel
theorem dX14_encode_29 : decode cX14_encode 29 = .ok (.aload_n 0, 1) := by decide +kernel
theorem dX14_encode_30 : decode cX14_encode 30 = .ok (.getfield 127, 3) := by decide +kernel
theorem dX14_encode_33 : decode cX14_encode 33 = .ok (.aload_n 0, 1) := by decide +kernel
theorem dX14_encode_34 : decode cX14_encode 34 = .ok (.getfield 85, 3) := by decide +kernel
theorem dX14_encode_37 : decode cX14_encode 37 = .ok (.sipush 128, 3) := by decide +kernel
theorem dX14_encode_40 : decode cX14_encode 40 = .ok (.aload_n 0, 1) := by decide +kernel
theorem dX14_encode_41 : decode cX14_encode 41 = .ok (.getfield 127, 3) := by decide +kernel
theorem dX14_encode_44 : decode cX14_encode 44 = .ok (.imul, 1) := by decide +kernel
theorem dX14_encode_45 : decode cX14_encode 45 = .ok (.iload 5, 2) := by decide +kernel
theorem dX14_encode_47 : decode cX14_encode 47 = .ok (.iadd, 1) := by decide +kernel
theorem dX14_encode_48 : decode cX14_encode 48 = .ok (.iaload, 1) := by decide +kernel
theorem dX14_encode_49 : decode cX14_encode 49 = .ok (.invokevirtual 374, 3) := by decide +kernel
theorem dX14_encode_52 : decode cX14_encode 52 = .ok (.istore 6, 2) := by decide +kernel
theorem dX14_encode_54 : decode cX14_encode 54 = .ok (.lload_n 3, 1) := by decide +kernel
theorem dX14_encode_55 : decode cX14_encode 55 = .ok (.lstore 7, 2) := by decide +kernel
theorem dX14_encode_57 : decode cX14_encode 57 = .ok (.aload_n 0, 1) := by decide +kernel
theorem dX14_encode_58 : decode cX14_encode 58 = .ok (.getfield 43, 3) := by decide +kernel
theorem dX14_encode_61 : decode cX14_encode 61 = .ok (.bipush 12, 2) := by decide +kernel
theorem dX14_encode_63 : decode cX14_encode 63 = .ok (.aload_n 0, 1) := by decide +kernel
theorem dX14_encode_64 : decode cX14_encode 64 = .ok (.getfield 127, 3) := by decide +kernel
theorem dX14_encode_67 : decode cX14_encode 67 = .ok (.imul, 1) := by decide +kernel
theorem dX14_encode_68 : decode cX14_encode 68 = .ok (.iload 6, 2) := by decide +kernel
theorem dX14_encode_70 : decode cX14_encode 70 = .ok (.iadd, 1) := by decide +kernel
theorem dX14_encode_71 : decode cX14_encode 71 = .ok (.iaload, 1) := by decide +kernel
theorem dX14_encode_72 : decode cX14_encode 72 = .ok (.iconst 2, 1) := by decide +kernel
theorem dX14_encode_73 : decode cX14_encode 73 = .ok (.if_icmp .ne 222, 3) := by decide +kernel
theorem dX14_encode_76 : decode cX14_encode 76 = .ok (.aload_n 0, 1) := by decide +kernel
theorem dX14_encode_77 : decode cX14_encode 77 = .ok (.getfield 46, 3) := by decide +kernel
theorem dX14_encode_80 : decode cX14_encode 80 = .ok (.bipush 12, 2) := by decide +kernel
theorem dX14_encode_82 : decode cX14_encode 82 = .ok (.aload_n 0, 1) := by decide +kernel
theorem dX14_encode_83 : decode cX14_encode 83 = .ok (.getfield 127, 3) := by decide +kernel
theorem dX14_encode_86 : decode cX14_encode 86 = .ok (.imul, 1) := by decide +kernel
theorem dX14_encode_87 : decode cX14_encode 87 = .ok (.iload 6, 2) := by decide +kernel
theorem dX14_encode_89 : decode cX14_encode 89 = .ok (.iadd, 1) := by decide +kernel
theorem dX14_encode_90 : decode cX14_encode 90 = .ok (.iaload, 1) := by decide +kernel
theorem dX14_encode_91 : decode cX14_encode 91 = .ok (.ifCond .eq 19, 3) := by decide +kernel
theorem dX14_encode_94 : decode cX14_encode 94 = .ok (.lload_n 3, 1) := by decide +kernel
theorem dX14_encode_95 : decode cX14_encode 95 = .ok (.ldc2_w 445, 3) := by decide +kernel
theorem dX14_encode_98 : decode cX14_encode 98 = .ok (.lcmp, 1) := by decide +kernel
theorem dX14_encode_99 : decode cX14_encode 99 = .ok (.ifCond .gt 11, 3) := by decide +kernel
theorem dX14_encode_102 : decode cX14_encode 102 = .ok (.lload_n 3, 1) := by decide +kernel
theorem dX14_encode_103 : decode cX14_encode 103 = .ok (.ldc2_w 447, 3) := by decide +kernel
theorem dX14_encode_106 : decode cX14_encode 106 = .ok (.lcmp, 1) := by decide +kernel
theorem dX14_encode_107 : decode cX14_encode 107 = .ok (.ifCond .ge 5, 3) := by decide +kernel
theorem dX14_encode_110 : decode cX14_encode 110 = .ok (.iconst 0, 1) := by decide +kernel
theorem dX14_encode_111 : decode cX14_encode 111 = .ok (.ireturn, 1) := by decide +kernel
theorem dX14_encode_112 : decode cX14_encode 112 = .ok (.lload_n 3, 1) := by decide +kernel
theorem dX14_encode_113 : decode cX14_encode 113 = .ok (.aload_n 0, 1) := by decide +kernel
theorem dX14_encode_114 : decode cX14_encode 114 = .ok (.getfield 52, 3) := by decide +kernel
theorem dX14_encode_117 : decode cX14_encode 117 = .ok (.bipush 12, 2) := by decide +kernel
theorem dX14_encode_119 : decode cX14_encode 119 = .ok (.aload_n 0, 1) := by decide +kernel
theorem dX14_encode_120 : decode cX14_encode 120 = .ok (.getfield 127, 3) := by decide +kernel
theorem dX14_encode_123 : decode cX14_encode 123 = .ok (.imul, 1) := by decide +kernel
theorem dX14_encode_124 : decode cX14_encode 124 = .ok (.iload 6, 2) := by decide +kernel
theorem dX14_encode_126 : decode cX14_encode 126 = .ok (.iadd, 1) := by decide +kernel
theorem dX14_encode_127 : decode cX14_encode 127 = .ok (.iaload, 1) := by decide +kernel
theorem dX14_encode_128 : decode cX14_encode 128 = .ok (.i2l, 1) := by decide +kernel
theorem dX14_encode_129 : decode cX14_encode 129 = .ok (.lsub, 1) := by decide +kernel
theorem dX14_encode_130 : decode cX14_encode 130 = .ok (.lstore 9, 2) := by decide +kernel
theorem dX14_encode_132 : decode cX14_encode 132 = .ok (.ldc2_w 449, 3) := by decide +kernel
theorem dX14_encode_135 : decode cX14_encode 135 = .ok (.aload_n 0, 1) := by decide +kernel
theorem dX14_encode_136 : decode cX14_encode 136 = .ok (.getfield 46, 3) := by decide +kernel
theorem dX14_encode_139 : decode cX14_encode 139 = .ok (.bipush 12, 2) := by decide +kernel
theorem dX14_encode_141 : decode cX14_encode 141 = .ok (.aload_n 0, 1) := by decide +kernel
theorem dX14_encode_142 : decode cX14_encode 142 = .ok (.getfield 127, 3) := by decide +kernel
theorem dX14_encode_145 : decode cX14_encode 145 = .ok (.imul, 1) := by decide +kernel
theorem dX14_encode_146 : decode cX14_encode 146 = .ok (.iload 6, 2) := by decide +kernel
theorem dX14_encode_148 : decode cX14_encode 148 = .ok (.iadd, 1) := by decide +kernel
theorem dX14_encode_149 : decode cX14_encode 149 = .ok (.iaload, 1) := by decide +kernel
theorem dX14_encode_150 : decode cX14_encode 150 = .ok (.ifCond .ge 22, 3) := by decide +kernel
theorem dX14_encode_153 : decode cX14_encode 153 = .ok (.aload_n 0, 1) := by decide +kernel
theorem dX14_encode_154 : decode cX14_encode 154 = .ok (.getfield 46, 3) := by decide +kernel
theorem dX14_encode_157 : decode cX14_encode 157 = .ok (.bipush 12, 2) := by decide +kernel
theorem dX14_encode_159 : decode cX14_encode 159 = .ok (.aload_n 0, 1) := by decide +kernel
theorem dX14_encode_160 : decode cX14_encode 160 = .ok (.getfield 127, 3) := by decide +kernel
theorem dX14_encode_163 : decode cX14_encode 163 = .ok (.imul, 1) := by decide +kernel
theorem dX14_encode_164 : decode cX14_encode 164 = .ok (.iload 6, 2) := by decide +kernel
theorem dX14_encode_166 : decode cX14_encode 166 = .ok (.iadd, 1) := by decide +kernel
theorem dX14_encode_167 : decode cX14_encode 167 = .ok (.iaload, 1) := by decide +kernel
theorem dX14_encode_168 : decode cX14_encode 168 = .ok (.ineg, 1) := by decide +kernel
theorem dX14_encode_169 : decode cX14_encode 169 = .ok (.goto 18, 3) := by decide +kernel
theorem dX14_encode_172 : decode cX14_encode 172 = .ok (.aload_n 0, 1) := by decide +kernel
theorem dX14_encode_173 : decode cX14_encode 173 = .ok (.getfield 46, 3) := by decide +kernel
theorem dX14_encode_176 : decode cX14_encode 176 = .ok (.bipush 12, 2) := by decide +kernel
theorem dX14_encode_178 : decode cX14_encode 178 = .ok (.aload_n 0, 1) := by decide +kernel
theorem dX14_encode_179 : decode cX14_encode 179 = .ok (.getfield 127, 3) := by decide +kernel
theorem dX14_encode_182 : decode cX14_encode 182 = .ok (.imul, 1) := by decide +kernel
theorem dX14_encode_183 : decode cX14_encode 183 = .ok (.iload 6, 2) := by decide +kernel
theorem dX14_encode_185 : decode cX14_encode 185 = .ok (.iadd, 1) := by decide +kernel
theorem dX14_encode_186 : decode cX14_encode 186 = .ok (.iaload, 1) := by decide +kernel
theorem dX14_encode_187 : decode cX14_encode 187 = .ok (.i2l, 1) := by decide +kernel
theorem dX14_encode_188 : decode cX14_encode 188 = .ok (.lmul, 1) := by decide +kernel
theorem dX14_encode_189 : decode cX14_encode 189 = .ok (.aload_n 0, 1) := by decide +kernel
theorem dX14_encode_190 : decode cX14_encode 190 = .ok (.getfield 49, 3) := by decide +kernel
theorem dX14_encode_193 : decode cX14_encode 193 = .ok (.bipush 12, 2) := by decide +kernel
theorem dX14_encode_195 : decode cX14_encode 195 = .ok (.aload_n 0, 1) := by decide +kernel
theorem dX14_encode_196 : decode cX14_encode 196 = .ok (.getfield 127, 3) := by decide +kernel
theorem dX14_encode_199 : decode cX14_encode 199 = .ok (.imul, 1) := by decide +kernel
theorem dX14_encode_200 : decode cX14_encode 200 = .ok (.iload 6, 2) := by decide +kernel
theorem dX14_encode_202 : decode cX14_encode 202 = .ok (.iadd, 1) := by decide +kernel
theorem dX14_encode_203 : decode cX14_encode 203 = .ok (.iaload, 1) := by decide +kernel
theorem dX14_encode_204 : decode cX14_encode 204 = .ok (.i2l, 1) := by decide +kernel
theorem dX14_encode_205 : decode cX14_encode 205 = .ok (.ldiv, 1) := by decide +kernel
theorem dX14_encode_206 : decode cX14_encode 206 = .ok (.lstore 11, 2) := by decide +kernel
theorem dX14_encode_208 : decode cX14_encode 208 = .ok (.lload 9, 2) := by decide +kernel
theorem dX14_encode_210 : decode cX14_encode 210 = .ok (.lload 11, 2) := by decide +kernel
theorem dX14_encode_212 : decode cX14_encode 212 = .ok (.lcmp, 1) := by decide +kernel
theorem dX14_encode_213 : decode cX14_encode 213 = .ok (.ifCond .gt 12, 3) := by decide +kernel
theorem dX14_encode_216 : decode cX14_encode 216 = .ok (.lload 9, 2) := by decide +kernel
theorem dX14_encode_218 : decode cX14_encode 218 = .ok (.lload 11, 2) := by decide +kernel
theorem dX14_encode_220 : decode cX14_encode 220 = .ok (.lneg, 1) := by decide +kernel
theorem dX14_encode_221 : decode cX14_encode 221 = .ok (.lcmp, 1) := by decide +kernel
theorem dX14_encode_222 : decode cX14_encode 222 = .ok (.ifCond .ge 5, 3) := by decide +kernel
theorem dX14_encode_225 : decode cX14_encode 225 = .ok (.iconst 0, 1) := by decide +kernel
theorem dX14_encode_226 : decode cX14_encode 226 = .ok (.ireturn, 1) := by decide +kernel
theorem dX14_encode_227 : decode cX14_encode 227 = .ok (.lload 9, 2) := by decide +kernel
theorem dX14_encode_229 : decode cX14_encode 229 = .ok (.aload_n 0, 1) := by decide +kernel
theorem dX14_encode_230 : decode cX14_encode 230 = .ok (.getfield 49, 3) := by decide +kernel
theorem dX14_encode_233 : decode cX14_encode 233 = .ok (.bipush 12, 2) := by decide +kernel
theorem dX14_encode_235 : decode cX14_encode 235 = .ok (.aload_n 0, 1) := by decide +kernel
theorem dX14_encode_236 : decode cX14_encode 236 = .ok (.getfield 127, 3) := by decide +kernel
theorem dX14_encode_239 : decode cX14_encode 239 = .ok (.imul, 1) := by decide +kernel
theorem dX14_encode_240 : decode cX14_encode 240 = .ok (.iload 6, 2) := by decide +kernel
theorem dX14_encode_242 : decode cX14_encode 242 = .ok (.iadd, 1) := by decide +kernel
theorem dX14_encode_243 : decode cX14_encode 243 = .ok (.iaload, 1) := by decide +kernel
theorem dX14_encode_244 : decode cX14_encode 244 = .ok (.i2l, 1) := by decide +kernel
theorem dX14_encode_245 : decode cX14_encode 245 = .ok (.lmul, 1) := by decide +kernel
theorem dX14_encode_246 : decode cX14_encode 246 = .ok (.lstore 13, 2) := by decide +kernel
theorem dX14_encode_248 : decode cX14_encode 248 = .ok (.lload 13, 2) := by decide +kernel
theorem dX14_encode_250 : decode cX14_encode 250 = .ok (.aload_n 0, 1) := by decide +kernel
theorem dX14_encode_251 : decode cX14_encode 251 = .ok (.getfield 46, 3) := by decide +kernel
theorem dX14_encode_254 : decode cX14_encode 254 = .ok (.bipush 12, 2) := by decide +kernel
theorem dX14_encode_256 : decode cX14_encode 256 = .ok (.aload_n 0, 1) := by decide +kernel
theorem dX14_encode_257 : decode cX14_encode 257 = .ok (.getfield 127, 3) := by decide +kernel
theorem dX14_encode_260 : decode cX14_encode 260 = .ok (.imul, 1) := by decide +kernel
theorem dX14_encode_261 : decode cX14_encode 261 = .ok (.iload 6, 2) := by decide +kernel
theorem dX14_encode_263 : decode cX14_encode 263 = .ok (.iadd, 1) := by decide +kernel
theorem dX14_encode_264 : decode cX14_encode 264 = .ok (.iaload, 1) := by decide +kernel
theorem dX14_encode_265 : decode cX14_encode 265 = .ok (.i2l, 1) := by decide +kernel
theorem dX14_encode_266 : decode cX14_encode 266 = .ok (.lrem, 1) := by decide +kernel
theorem dX14_encode_267 : decode cX14_encode 267 = .ok (.lconst 0, 1) := by decide +kernel
theorem dX14_encode_268 : decode cX14_encode 268 = .ok (.lcmp, 1) := by decide +kernel
theorem dX14_encode_269 : decode cX14_encode 269 = .ok (.ifCond .eq 5, 3) := by decide +kernel
theorem dX14_encode_272 : decode cX14_encode 272 = .ok (.iconst 0, 1) := by decide +kernel
theorem dX14_encode_273 : decode cX14_encode 273 = .ok (.ireturn, 1) := by decide +kernel
theorem dX14_encode_274 : decode cX14_encode 274 = .ok (.lload 13, 2) := by decide +kernel
theorem dX14_encode_276 : decode cX14_encode 276 = .ok (.aload_n 0, 1) := by decide +kernel
theorem dX14_encode_277 : decode cX14_encode 277 = .ok (.getfield 46, 3) := by decide +kernel
theorem dX14_encode_280 : decode cX14_encode 280 = .ok (.bipush 12, 2) := by decide +kernel
theorem dX14_encode_282 : decode cX14_encode 282 = .ok (.aload_n 0, 1) := by decide +kernel
theorem dX14_encode_283 : decode cX14_encode 283 = .ok (.getfield 127, 3) := by decide +kernel
theorem dX14_encode_286 : decode cX14_encode 286 = .ok (.imul, 1) := by decide +kernel
theorem dX14_encode_287 : decode cX14_encode 287 = .ok (.iload 6, 2) := by decide +kernel
theorem dX14_encode_289 : decode cX14_encode 289 = .ok (.iadd, 1) := by decide +kernel
theorem dX14_encode_290 : decode cX14_encode 290 = .ok (.iaload, 1) := by decide +kernel
theorem dX14_encode_291 : decode cX14_encode 291 = .ok (.i2l, 1) := by decide +kernel
theorem dX14_encode_292 : decode cX14_encode 292 = .ok (.ldiv, 1) := by decide +kernel
theorem dX14_encode_293 : decode cX14_encode 293 = .ok (.lstore 7, 2) := by decide +kernel
theorem dX14_encode_295 : decode cX14_encode 295 = .ok (.lconst 1, 1) := by decide +kernel
theorem dX14_encode_296 : decode cX14_encode 296 = .ok (.bipush 8, 2) := by decide +kernel
theorem dX14_encode_298 : decode cX14_encode 298 = .ok (.aload_n 0, 1) := by decide +kernel
theorem dX14_encode_299 : decode cX14_encode 299 = .ok (.getfield 40, 3) := by decide +kernel
theorem dX14_encode_302 : decode cX14_encode 302 = .ok (.bipush 12, 2) := by decide +kernel
theorem dX14_encode_304 : decode cX14_encode 304 = .ok (.aload_n 0, 1) := by decide +kernel
theorem dX14_encode_305 : decode cX14_encode 305 = .ok (.getfield 127, 3) := by decide +kernel
theorem dX14_encode_308 : decode cX14_encode 308 = .ok (.imul, 1) := by decide +kernel
theorem dX14_encode_309 : decode cX14_encode 309 = .ok (.iload 6, 2) := by decide +kernel
theorem dX14_encode_311 : decode cX14_encode 311 = .ok (.iadd, 1) := by decide +kernel
theorem dX14_encode_312 : decode cX14_encode 312 = .ok (.iaload, 1) := by decide +kernel
theorem dX14_encode_313 : decode cX14_encode 313 = .ok (.imul, 1) := by decide +kernel
theorem dX14_encode_314 : decode cX14_encode 314 = .ok (.lshl, 1) := by decide +kernel
theorem dX14_encode_315 : decode cX14_encode 315 = .ok (.lstore 9, 2) := by decide +kernel
theorem dX14_encode_317 : decode cX14_encode 317 = .ok (.aload_n 0, 1) := by decide +kernel
theorem dX14_encode_318 : decode cX14_encode 318 = .ok (.getfield 43, 3) := by decide +kernel
theorem dX14_encode_321 : decode cX14_encode 321 = .ok (.bipush 12, 2) := by decide +kernel
theorem dX14_encode_323 : decode cX14_encode 323 = .ok (.aload_n 0, 1) := by decide +kernel
theorem dX14_encode_324 : decode cX14_encode 324 = .ok (.getfield 127, 3) := by decide +kernel
theorem dX14_encode_327 : decode cX14_encode 327 = .ok (.imul, 1) := by decide +kernel
theorem dX14_encode_328 : decode cX14_encode 328 = .ok (.iload 6, 2) := by decide +kernel
theorem dX14_encode_330 : decode cX14_encode 330 = .ok (.iadd, 1) := by decide +kernel
theorem dX14_encode_331 : decode cX14_encode 331 = .ok (.iaload, 1) := by decide +kernel
theorem dX14_encode_332 : decode cX14_encode 332 = .ok (.iconst 1, 1) := by decide +kernel
theorem dX14_encode_333 : decode cX14_encode 333 = .ok (.if_icmp .ne 7, 3) := by decide +kernel
theorem dX14_encode_336 : decode cX14_encode 336 = .ok (.iconst 1, 1) := by decide +kernel
theorem dX14_encode_337 : decode cX14_encode 337 = .ok (.goto 4, 3) := by decide +kernel
theorem dX14_encode_340 : decode cX14_encode 340 = .ok (.iconst 0, 1) := by decide +kernel
theorem dX14_encode_341 : decode cX14_encode 341 = .ok (.istore 11, 2) := by decide +kernel
theorem dX14_encode_343 : decode cX14_encode 343 = .ok (.iload 11, 2) := by decide +kernel
theorem dX14_encode_345 : decode cX14_encode 345 = .ok (.ifCond .eq 31, 3) := by decide +kernel
theorem dX14_encode_348 : decode cX14_encode 348 = .ok (.lload 7, 2) := by decide +kernel
theorem dX14_encode_350 : decode cX14_encode 350 = .ok (.lload 9, 2) := by decide +kernel
theorem dX14_encode_352 : decode cX14_encode 352 = .ok (.lneg, 1) := by decide +kernel
theorem dX14_encode_353 : decode cX14_encode 353 = .ok (.ldc2_w 451, 3) := by decide +kernel
theorem dX14_encode_356 : decode cX14_encode 356 = .ok (.ldiv, 1) := by decide +kernel
theorem dX14_encode_357 : decode cX14_encode 357 = .ok (.lcmp, 1) := by decide +kernel
theorem dX14_encode_358 : decode cX14_encode 358 = .ok (.ifCond .lt 33, 3) := by decide +kernel
theorem dX14_encode_361 : decode cX14_encode 361 = .ok (.lload 7, 2) := by decide +kernel
theorem dX14_encode_363 : decode cX14_encode 363 = .ok (.lload 9, 2) := by decide +kernel
theorem dX14_encode_365 : decode cX14_encode 365 = .ok (.ldc2_w 451, 3) := by decide +kernel
theorem dX14_encode_368 : decode cX14_encode 368 = .ok (.ldiv, 1) := by decide +kernel
theorem dX14_encode_369 : decode cX14_encode 369 = .ok (.lcmp, 1) := by decide +kernel
theorem dX14_encode_370 : decode cX14_encode 370 = .ok (.ifCond .lt 23, 3) := by decide +kernel
theorem dX14_encode_373 : decode cX14_encode 373 = .ok (.goto 18, 3) := by decide +kernel
theorem dX14_encode_376 : decode cX14_encode 376 = .ok (.lload 7, 2) := by decide +kernel
theorem dX14_encode_378 : decode cX14_encode 378 = .ok (.lconst 0, 1) := by decide +kernel
theorem dX14_encode_379 : decode cX14_encode 379 = .ok (.lcmp, 1) := by decide +kernel
theorem dX14_encode_380 : decode cX14_encode 380 = .ok (.ifCond .lt 11, 3) := by decide +kernel
theorem dX14_encode_383 : decode cX14_encode 383 = .ok (.lload 7, 2) := by decide +kernel
theorem dX14_encode_385 : decode cX14_encode 385 = .ok (.lload 9, 2) := by decide +kernel
theorem dX14_encode_387 : decode cX14_encode 387 = .ok (.lcmp, 1) := by decide +kernel
theorem dX14_encode_388 : decode cX14_encode 388 = .ok (.ifCond .lt 5, 3) := by decide +kernel
theorem dX14_encode_391 : decode cX14_encode 391 = .ok (.iconst 0, 1) := by decide +kernel
theorem dX14_encode_392 : decode cX14_encode 392 = .ok (.ireturn, 1) := by decide +kernel
theorem dX14_encode_393 : decode cX14_encode 393 = .ok (.aload_n 0, 1) := by decide +kernel
theorem dX14_encode_394 : decode cX14_encode 394 = .ok (.getfield 161, 3) := by decide +kernel
theorem dX14_encode_397 : decode cX14_encode 397 = .ok (.iload 5, 2) := by decide +kernel
theorem dX14_encode_399 : decode cX14_encode 399 = .ok (.lload 7, 2) := by decide +kernel
theorem dX14_encode_401 : decode cX14_encode 401 = .ok (.lastore, 1) := by decide +kernel
theorem dX14_encode_402 : decode cX14_encode 402 = .ok (.aload_n 0, 1) := by decide +kernel
theorem dX14_encode_403 : decode cX14_encode 403 = .ok (.getfield 158, 3) := by decide +kernel
theorem dX14_encode_406 : decode cX14_encode 406 = .ok (.iconst 0, 1) := by decide +kernel
theorem dX14_encode_407 : decode cX14_encode 407 = .ok (.aload_n 0, 1) := by decide +kernel
theorem dX14_encode_408 : decode cX14_encode 408 = .ok (.getfield 73, 3) := by decide +kernel
theorem dX14_encode_411 : decode cX14_encode 411 = .ok (.bipush 16, 2) := by decide +kernel
theorem dX14_encode_413 : decode cX14_encode 413 = .ok (.aload_n 0, 1) := by decide +kernel
theorem dX14_encode_414 : decode cX14_encode 414 = .ok (.getfield 127, 3) := by decide +kernel
theorem dX14_encode_417 : decode cX14_encode 417 = .ok (.imul, 1) := by decide +kernel
theorem dX14_encode_418 : decode cX14_encode 418 = .ok (.iload_n 1, 1) := by decide +kernel
theorem dX14_encode_419 : decode cX14_encode 419 = .ok (.iadd, 1) := by decide +kernel
theorem dX14_encode_420 : decode cX14_encode 420 = .ok (.iconst 1, 1) := by decide +kernel
theorem dX14_encode_421 : decode cX14_encode 421 = .ok (.isub, 1) := by decide +kernel
theorem dX14_encode_422 : decode cX14_encode 422 = .ok (.iaload, 1) := by decide +kernel
theorem dX14_encode_423 : decode cX14_encode 423 = .ok (.bipush 64, 2) := by decide +kernel
theorem dX14_encode_425 : decode cX14_encode 425 = .ok (.iadd, 1) := by decide +kernel
theorem dX14_encode_426 : decode cX14_encode 426 = .ok (.iastore, 1) := by decide +kernel
theorem dX14_encode_427 : decode cX14_encode 427 = .ok (.aload_n 0, 1) := by decide +kernel
theorem dX14_encode_428 : decode cX14_encode 428 = .ok (.aload_n 0, 1) := by decide +kernel
theorem dX14_encode_429 : decode cX14_encode 429 = .ok (.iload_n 1, 1) := by decide +kernel
theorem dX14_encode_430 : decode cX14_encode 430 = .ok (.iconst 1, 1) := by decide +kernel
theorem dX14_encode_431 : decode cX14_encode 431 = .ok (.isub, 1) := by decide +kernel
theorem dX14_encode_432 : decode cX14_encode 432 = .ok (.aload_n 0, 1) := by decide +kernel
theorem dX14_encode_433 : decode cX14_encode 433 = .ok (.getfield 158, 3) := by decide +kernel
theorem dX14_encode_436 : decode cX14_encode 436 = .ok (.bipush 64, 2) := by decide +kernel
theorem dX14_encode_438 : decode cX14_encode 438 = .ok (.iconst 1, 1) := by decide +kernel
theorem dX14_encode_439 : decode cX14_encode 439 = .ok (.invokevirtual 429, 3) := by decide +kernel
theorem dX14_encode_442 : decode cX14_encode 442 = .ok (.putfield 453, 3) := by decide +kernel
theorem dX14_encode_445 : decode cX14_encode 445 = .ok (.iconst 1, 1) := by decide +kernel
theorem dX14_encode_446 : decode cX14_encode 446 = .ok (.ireturn, 1) := by decide +kernel
theorem dX14_out_0 : decode cX14_out 0 = .ok (.aload_n 0, 1) := by decide +kernel
theorem dX14_out_1 : decode cX14_out 1 = .ok (.iload_n 1, 1) := by decide +kernel
theorem dX14_out_2 : decode cX14_out 2 = .ok (.ifCond .lt 11, 3) := by decide +kernel
theorem dX14_out_5 : decode cX14_out 5 = .ok (.iload_n 1, 1) := by decide +kernel
theorem dX14_out_6 : decode cX14_out 6 = .ok (.aload_n 0, 1) := by decide +kernel
theorem dX14_out_7 : decode cX14_out 7 = .ok (.getfield 453, 3) := by decide +kernel
theorem dX14_out_10 : decode cX14_out 10 = .ok (.if_icmp .lt 7, 3) := by decide +kernel
theorem dX14_out_13 : decode cX14_out 13 = .ok (.iconst 1, 1) := by decide +kernel
theorem dX14_out_14 : decode cX14_out 14 = .ok (.goto 4, 3) := by decide +kernel
theorem dX14_out_17 : decode cX14_out 17 = .ok (.iconst 0, 1) := by decide +kernel
theorem dX14_out_18 : decode cX14_out 18 = .ok (.putfield 181, 3) := by decide +kernel
theorem dX14_out_21 : decode cX14_out 21 = .ok (.aload_n 0, 1) := by decide +kernel
theorem dX14_out_22 : decode cX14_out 22 = .ok (.getfield 181, 3) := by decide +kernel
theorem dX14_out_25 : decode cX14_out 25 = .ok (.ifCond .le 7, 3) := by decide +kernel
theorem dX14_out_28 : decode cX14_out 28 = .ok (.iconst 0, 1) := by decide +kernel
theorem dX14_out_29 : decode cX14_out 29 = .ok (.goto 10, 3) := by decide +kernel
theorem dX14_out_32 : decode cX14_out 32 = .ok (.aload_n 0, 1) := by decide +kernel
theorem dX14_out_33 : decode cX14_out 33 = .ok (.getfield 158, 3) := by decide +kernel
theorem dX14_out_36 : decode cX14_out 36 = .ok (.iload_n 1, 1) := by decide +kernel
theorem dX14_out_37 : decode cX14_out 37 = .ok (.iaload, 1) := by decide +kernel
theorem dX14_out_38 : decode cX14_out 38 = .ok (.i2b, 1) := by decide +kernel
theorem dX14_out_39 : decode cX14_out 39 = .ok (.ireturn, 1) := by decide +kernel
theorem dX14_variant_0 : decode cX14_variant 0 = .ok (.aload_n 0, 1) := by decide +kernel
theorem dX14_variant_1 : decode cX14_variant 1 = .ok (.iconst 0, 1) := by decide +kernel
theorem dX14_variant_2 : decode cX14_variant 2 = .ok (.putfield 181, 3) := by decide +kernel
theorem dX14_variant_5 : decode cX14_variant 5 = .ok (.aload_n 0, 1) := by decide +kernel
theorem dX14_variant_6 : decode cX14_variant 6 = .ok (.getfield 400, 3) := by decide +kernel
theorem dX14_variant_9 : decode cX14_variant 9 = .ok (.ifCond .ne 6, 3) := by decide +kernel
theorem dX14_variant_12 : decode cX14_variant 12 = .ok (.bipush (-3), 2) := by decide +kernel
theorem dX14_variant_14 : decode cX14_variant 14 = .ok (.ireturn, 1) := by decide +kernel
theorem dX14_variant_15 : decode cX14_variant 15 = .ok (.aload_n 0, 1) := by decide +kernel
theorem dX14_variant_16 : decode cX14_variant 16 = .ok (.iconst 0, 1) := by decide +kernel
theorem dX14_variant_17 : decode cX14_variant 17 = .ok (.putfield 406, 3) := by decide +kernel
theorem dX14_variant_20 : decode cX14_variant 20 = .ok (.aload_n 0, 1) := by decide +kernel
theorem dX14_variant_21 : decode cX14_variant 21 = .ok (.getfield 16, 3) := by decide +kernel
theorem dX14_variant_24 : decode cX14_variant 24 = .ok (.aload_n 0, 1) := by decide +kernel
theorem dX14_variant_25 : decode cX14_variant 25 = .ok (.getfield 127, 3) := by decide +kernel
theorem dX14_variant_28 : decode cX14_variant 28 = .ok (.iaload, 1) := by decide +kernel
theorem dX14_variant_29 : decode cX14_variant 29 = .ok (.iconst 1, 1) := by decide +kernel
theorem dX14_variant_30 : decode cX14_variant 30 = .ok (.isub, 1) := by decide +kernel
theorem dX14_variant_31 : decode cX14_variant 31 = .ok (.istore_n 2, 1) := by decide +kernel
theorem dX14_variant_32 : decode cX14_variant 32 = .ok (.iload_n 2, 1) := by decide +kernel
theorem dX14_variant_33 : decode cX14_variant 33 = .ok (.ifCond .lt 89, 3) := by decide +kernel
theorem dX14_variant_36 : decode cX14_variant 36 = .ok (.iconst 0, 1) := by decide +kernel
theorem dX14_variant_37 : decode cX14_variant 37 = .ok (.istore_n 3, 1) := by decide +kernel
theorem dX14_variant_38 : decode cX14_variant 38 = .ok (.iconst 0, 1) := by decide +kernel
theorem dX14_variant_39 : decode cX14_variant 39 = .ok (.istore 4, 2) := by decide +kernel
theorem dX14_variant_41 : decode cX14_variant 41 = .ok (.iload 4, 2) := by decide +kernel
theorem dX14_variant_43 : decode cX14_variant 43 = .ok (.aload_n 0, 1) := by decide +kernel
theorem dX14_variant_44 : decode cX14_variant 44 = .ok (.getfield 25, 3) := by decide +kernel
theorem dX14_variant_47 : decode cX14_variant 47 = .ok (.aload_n 0, 1) := by decide +kernel
theorem dX14_variant_48 : decode cX14_variant 48 = .ok (.getfield 127, 3) := by decide +kernel
theorem dX14_variant_51 : decode cX14_variant 51 = .ok (.iaload, 1) := by decide +kernel
theorem dX14_variant_52 : decode cX14_variant 52 = .ok (.if_icmp .ge 46, 3) := by decide +kernel
theorem dX14_variant_55 : decode cX14_variant 55 = .ok (.iload_n 3, 1) := by decide +kernel
theorem dX14_variant_56 : decode cX14_variant 56 = .ok (.ifCond .ne 30, 3) := by decide +kernel
theorem dX14_variant_59 : decode cX14_variant 59 = .ok (.aload_n 0, 1) := by decide +kernel
theorem dX14_variant_60 : decode cX14_variant 60 = .ok (.aload_n 0, 1) := by decide +kernel
theorem dX14_variant_61 : decode cX14_variant 61 = .ok (.getfield 127, 3) := by decide +kernel
theorem dX14_variant_64 : decode cX14_variant 64 = .ok (.aload_n 0, 1) := by decide +kernel
theorem dX14_variant_65 : decode cX14_variant 65 = .ok (.getfield 103, 3) := by decide +kernel
theorem dX14_variant_68 : decode cX14_variant 68 = .ok (.bipush 6, 2) := by decide +kernel
theorem dX14_variant_70 : decode cX14_variant 70 = .ok (.aload_n 0, 1) := by decide +kernel
theorem dX14_variant_71 : decode cX14_variant 71 = .ok (.getfield 127, 3) := by decide +kernel
theorem dX14_variant_74 : decode cX14_variant 74 = .ok (.imul, 1) := by decide +kernel
theorem dX14_variant_75 : decode cX14_variant 75 = .ok (.iload 4, 2) := by decide +kernel
theorem dX14_variant_77 : decode cX14_variant 77 = .ok (.iadd, 1) := by decide +kernel
theorem dX14_variant_78 : decode cX14_variant 78 = .ok (.iaload, 1) := by decide +kernel
theorem dX14_variant_79 : decode cX14_variant 79 = .ok (.invokevirtual 377, 3) := by decide +kernel
theorem dX14_variant_82 : decode cX14_variant 82 = .ok (.iload_n 2, 1) := by decide +kernel
theorem dX14_variant_83 : decode cX14_variant 83 = .ok (.if_icmp .ne 7, 3) := by decide +kernel
theorem dX14_variant_86 : decode cX14_variant 86 = .ok (.iconst 1, 1) := by decide +kernel
theorem dX14_variant_87 : decode cX14_variant 87 = .ok (.goto 4, 3) := by decide +kernel
theorem dX14_variant_90 : decode cX14_variant 90 = .ok (.iconst 0, 1) := by decide +kernel
theorem dX14_variant_91 : decode cX14_variant 91 = .ok (.istore_n 3, 1) := by decide +kernel
theorem dX14_variant_92 : decode cX14_variant 92 = .ok (.iinc 4 1, 3) := by decide +kernel
theorem dX14_variant_95 : decode cX14_variant 95 = .ok (.goto (-54), 3) := by decide +kernel
theorem dX14_variant_98 : decode cX14_variant 98 = .ok (.aload_n 0, 1) := by decide +kernel
theorem dX14_variant_99 : decode cX14_variant 99 = .ok (.iload_n 3, 1) := by decide +kernel
theorem dX14_variant_100 : decode cX14_variant 100 = .ok (.ifCond .eq 10, 3) := by decide +kernel
theorem dX14_variant_103 : decode cX14_variant 103 = .ok (.aload_n 0, 1) := by decide +kernel
theorem dX14_variant_104 : decode cX14_variant 104 = .ok (.getfield 406, 3) := by decide +kernel
theorem dX14_variant_107 : decode cX14_variant 107 = .ok (.goto 6, 3) := by decide +kernel
theorem dX14_variant_110 : decode cX14_variant 110 = .ok (.iload_n 2, 1) := by decide +kernel
theorem dX14_variant_111 : decode cX14_variant 111 = .ok (.iconst 1, 1) := by decide +kernel
theorem dX14_variant_112 : decode cX14_variant 112 = .ok (.iadd, 1) := by decide +kernel
theorem dX14_variant_113 : decode cX14_variant 113 = .ok (.putfield 406, 3) := by decide +kernel
theorem dX14_variant_116 : decode cX14_variant 116 = .ok (.iinc 2 (-1), 3) := by decide +kernel
theorem dX14_variant_119 : decode cX14_variant 119 = .ok (.goto (-87), 3) := by decide +kernel
theorem dX14_variant_122 : decode cX14_variant 122 = .ok (.aload_n 0, 1) := by decide +kernel
theorem dX14_variant_123 : decode cX14_variant 123 = .ok (.getfield 25, 3) := by decide +kernel
theorem dX14_variant_126 : decode cX14_variant 126 = .ok (.aload_n 0, 1) := by decide +kernel
theorem dX14_variant_127 : decode cX14_variant 127 = .ok (.getfield 127, 3) := by decide +kernel
theorem dX14_variant_130 : decode cX14_variant 130 = .ok (.iaload, 1) := by decide +kernel
theorem dX14_variant_131 : decode cX14_variant 131 = .ok (.iconst 1, 1) := by decide +kernel
theorem dX14_variant_132 : decode cX14_variant 132 = .ok (.isub, 1) := by decide +kernel
theorem dX14_variant_133 : decode cX14_variant 133 = .ok (.istore_n 2, 1) := by decide +kernel
theorem dX14_variant_134 : decode cX14_variant 134 = .ok (.iload_n 2, 1) := by decide +kernel
theorem dX14_variant_135 : decode cX14_variant 135 = .ok (.ifCond .lt 55, 3) := by decide +kernel
theorem dX14_variant_138 : decode cX14_variant 138 = .ok (.aload_n 0, 1) := by decide +kernel
theorem dX14_variant_139 : decode cX14_variant 139 = .ok (.getfield 106, 3) := by decide +kernel
theorem dX14_variant_142 : decode cX14_variant 142 = .ok (.bipush 6, 2) := by decide +kernel
theorem dX14_variant_144 : decode cX14_variant 144 = .ok (.aload_n 0, 1) := by decide +kernel
theorem dX14_variant_145 : decode cX14_variant 145 = .ok (.getfield 127, 3) := by decide +kernel
theorem dX14_variant_148 : decode cX14_variant 148 = .ok (.imul, 1) := by decide +kernel
theorem dX14_variant_149 : decode cX14_variant 149 = .ok (.iload_n 2, 1) := by decide +kernel
theorem dX14_variant_150 : decode cX14_variant 150 = .ok (.iadd, 1) := by decide +kernel
theorem dX14_variant_151 : decode cX14_variant 151 = .ok (.iaload, 1) := by decide +kernel
theorem dX14_variant_152 : decode cX14_variant 152 = .ok (.iload_n 1, 1) := by decide +kernel
theorem dX14_variant_153 : decode cX14_variant 153 = .ok (.if_icmp .ne 31, 3) := by decide +kernel
theorem dX14_variant_156 : decode cX14_variant 156 = .ok (.aload_n 0, 1) := by decide +kernel
theorem dX14_variant_157 : decode cX14_variant 157 = .ok (.aload_n 0, 1) := by decide +kernel
theorem dX14_variant_158 : decode cX14_variant 158 = .ok (.aload_n 0, 1) := by decide +kernel
theorem dX14_variant_159 : decode cX14_variant 159 = .ok (.getfield 127, 3) := by decide +kernel
theorem dX14_variant_162 : decode cX14_variant 162 = .ok (.aload_n 0, 1) := by decide +kernel
theorem dX14_variant_163 : decode cX14_variant 163 = .ok (.getfield 103, 3) := by decide +kernel
theorem dX14_variant_166 : decode cX14_variant 166 = .ok (.bipush 6, 2) := by decide +kernel
theorem dX14_variant_168 : decode cX14_variant 168 = .ok (.aload_n 0, 1) := by decide +kernel
theorem dX14_variant_169 : decode cX14_variant 169 = .ok (.getfield 127, 3) := by decide +kernel
theorem dX14_variant_172 : decode cX14_variant 172 = .ok (.imul, 1) := by decide +kernel
theorem dX14_variant_173 : decode cX14_variant 173 = .ok (.iload_n 2, 1) := by decide +kernel
theorem dX14_variant_174 : decode cX14_variant 174 = .ok (.iadd, 1) := by decide +kernel
theorem dX14_variant_175 : decode cX14_variant 175 = .ok (.iaload, 1) := by decide +kernel
theorem dX14_variant_176 : decode cX14_variant 176 = .ok (.invokevirtual 377, 3) := by decide +kernel
theorem dX14_variant_179 : decode cX14_variant 179 = .ok (.iconst 1, 1) := by decide +kernel
theorem dX14_variant_180 : decode cX14_variant 180 = .ok (.iadd, 1) := by decide +kernel
theorem dX14_variant_181 : decode cX14_variant 181 = .ok (.putfield 406, 3) := by decide +kernel
theorem dX14_variant_184 : decode cX14_variant 184 = .ok (.iinc 2 (-1), 3) := by decide +kernel
theorem dX14_variant_187 : decode cX14_variant 187 = .ok (.goto (-53), 3) := by decide +kernel
theorem dX14_variant_190 : decode cX14_variant 190 = .ok (.aload_n 0, 1) := by decide +kernel
theorem dX14_variant_191 : decode cX14_variant 191 = .ok (.getfield 406, 3) := by decide +kernel
theorem dX14_variant_194 : decode cX14_variant 194 = .ok (.ireturn, 1) := by decide +kernel
theorem dX14_floorValue_0 : decode cX14_floorValue 0 = .ok (.aload_n 0, 1) := by decide +kernel
theorem dX14_floorValue_1 : decode cX14_floorValue 1 = .ok (.aload_n 0, 1) := by decide +kernel
theorem dX14_floorValue_2 : decode cX14_floorValue 2 = .ok (.getfield 127, 3) := by decide +kernel
theorem dX14_floorValue_5 : decode cX14_floorValue 5 = .ok (.aload_n 0, 1) := by decide +kernel
theorem dX14_floorValue_6 : decode cX14_floorValue 6 = .ok (.getfield 118, 3) := by decide +kernel
theorem dX14_floorValue_9 : decode cX14_floorValue 9 = .ok (.sipush 400, 3) := by decide +kernel
theorem dX14_floorValue_12 : decode cX14_floorValue 12 = .ok (.aload_n 0, 1) := by decide +kernel
theorem dX14_floorValue_13 : decode cX14_floorValue 13 = .ok (.getfield 127, 3) := by decide +kernel
theorem dX14_floorValue_16 : decode cX14_floorValue 16 = .ok (.imul, 1) := by decide +kernel
theorem dX14_floorValue_17 : decode cX14_floorValue 17 = .ok (.iload_n 1, 1) := by decide +kernel
theorem dX14_floorValue_18 : decode cX14_floorValue 18 = .ok (.iadd, 1) := by decide +kernel
theorem dX14_floorValue_19 : decode cX14_floorValue 19 = .ok (.iaload, 1) := by decide +kernel
theorem dX14_floorValue_20 : decode cX14_floorValue 20 = .ok (.iconst (-1), 1) := by decide +kernel
theorem dX14_floorValue_21 : decode cX14_floorValue 21 = .ok (.invokevirtual 380, 3) := by decide +kernel
theorem dX14_floorValue_24 : decode cX14_floorValue 24 = .ok (.istore_n 2, 1) := by decide +kernel
theorem dX14_floorValue_25 : decode cX14_floorValue 25 = .ok (.aload_n 0, 1) := by decide +kernel
theorem dX14_floorValue_26 : decode cX14_floorValue 26 = .ok (.aload_n 0, 1) := by decide +kernel
theorem dX14_floorValue_27 : decode cX14_floorValue 27 = .ok (.getfield 127, 3) := by decide +kernel
theorem dX14_floorValue_30 : decode cX14_floorValue 30 = .ok (.iload_n 2, 1) := by decide +kernel
theorem dX14_floorValue_31 : decode cX14_floorValue 31 = .ok (.aload_n 0, 1) := by decide +kernel
theorem dX14_floorValue_32 : decode cX14_floorValue 32 = .ok (.getfield 121, 3) := by decide +kernel
theorem dX14_floorValue_35 : decode cX14_floorValue 35 = .ok (.sipush 400, 3) := by decide +kernel
theorem dX14_floorValue_38 : decode cX14_floorValue 38 = .ok (.aload_n 0, 1) := by decide +kernel
theorem dX14_floorValue_39 : decode cX14_floorValue 39 = .ok (.getfield 127, 3) := by decide +kernel
theorem dX14_floorValue_42 : decode cX14_floorValue 42 = .ok (.imul, 1) := by decide +kernel
theorem dX14_floorValue_43 : decode cX14_floorValue 43 = .ok (.iload_n 1, 1) := by decide +kernel
theorem dX14_floorValue_44 : decode cX14_floorValue 44 = .ok (.iadd, 1) := by decide +kernel
theorem dX14_floorValue_45 : decode cX14_floorValue 45 = .ok (.iaload, 1) := by decide +kernel
theorem dX14_floorValue_46 : decode cX14_floorValue 46 = .ok (.invokevirtual 384, 3) := by decide +kernel
theorem dX14_floorValue_49 : decode cX14_floorValue 49 = .ok (.istore_n 3, 1) := by decide +kernel
theorem dX14_floorValue_50 : decode cX14_floorValue 50 = .ok (.aload_n 0, 1) := by decide +kernel
theorem dX14_floorValue_51 : decode cX14_floorValue 51 = .ok (.iload_n 2, 1) := by decide +kernel
theorem dX14_floorValue_52 : decode cX14_floorValue 52 = .ok (.aload_n 0, 1) := by decide +kernel
theorem dX14_floorValue_53 : decode cX14_floorValue 53 = .ok (.getfield 155, 3) := by decide +kernel
theorem dX14_floorValue_56 : decode cX14_floorValue 56 = .ok (.aload_n 0, 1) := by decide +kernel
theorem dX14_floorValue_57 : decode cX14_floorValue 57 = .ok (.getfield 415, 3) := by decide +kernel
theorem dX14_floorValue_60 : decode cX14_floorValue 60 = .ok (.iconst 0, 1) := by decide +kernel
theorem dX14_floorValue_61 : decode cX14_floorValue 61 = .ok (.invokevirtual 429, 3) := by decide +kernel
theorem dX14_floorValue_64 : decode cX14_floorValue 64 = .ok (.istore 4, 2) := by decide +kernel
