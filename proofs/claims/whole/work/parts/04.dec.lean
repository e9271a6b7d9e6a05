theorem dX0_init_0 : decode cX0_init 0 = .ok (.aload_n 0, 1) := by decide +kernel
theorem dX0_init_1 : decode cX0_init 1 = .ok (.invokespecial 3, 3) := by decide +kernel
theorem dX0_init_4 : decode cX0_init 4 = .ok (.aload_n 0, 1) := by decide +kernel
theorem dX0_init_5 : decode cX0_init 5 = .ok (.bipush 32, 2) := by decide +kernel
theorem dX0_init_7 : decode cX0_init 7 = .ok (.newarray .int, 2) := by decide +kernel
theorem dX0_init_9 : decode cX0_init 9 = .ok (.putfield 9, 3) := by decide +kernel
theorem dX0_init_12 : decode cX0_init 12 = .ok (.aload_n 0, 1) := by decide +kernel
theorem dX0_init_13 : decode cX0_init 13 = .ok (.bipush 32, 2) := by decide +kernel
theorem dX0_init_15 : decode cX0_init 15 = .ok (.newarray .int, 2) := by decide +kernel
theorem dX0_init_17 : decode cX0_init 17 = .ok (.putfield 13, 3) := by decide +kernel
theorem dX0_init_20 : decode cX0_init 20 = .ok (.return_, 1) := by decide +kernel
theorem dX0_intoWaves_0 : decode cX0_intoWaves 0 = .ok (.iconst 1, 1) := by decide +kernel
theorem dX0_intoWaves_1 : decode cX0_intoWaves 1 = .ok (.iload_n 1, 1) := by decide +kernel
theorem dX0_intoWaves_2 : decode cX0_intoWaves 2 = .ok (.ishl, 1) := by decide +kernel
theorem dX0_intoWaves_3 : decode cX0_intoWaves 3 = .ok (.istore_n 3, 1) := by decide +kernel
theorem dX0_intoWaves_4 : decode cX0_intoWaves 4 = .ok (.aload_n 0, 1) := by decide +kernel
theorem dX0_intoWaves_5 : decode cX0_intoWaves 5 = .ok (.iload_n 1, 1) := by decide +kernel
theorem dX0_intoWaves_6 : decode cX0_intoWaves 6 = .ok (.invokevirtual 16, 3) := by decide +kernel
theorem dX0_intoWaves_9 : decode cX0_intoWaves 9 = .ok (.iconst 1, 1) := by decide +kernel
theorem dX0_intoWaves_10 : decode cX0_intoWaves 10 = .ok (.istore 4, 2) := by decide +kernel
theorem dX0_intoWaves_12 : decode cX0_intoWaves 12 = .ok (.iload 4, 2) := by decide +kernel
theorem dX0_intoWaves_14 : decode cX0_intoWaves 14 = .ok (.iload_n 3, 1) := by decide +kernel
theorem dX0_intoWaves_15 : decode cX0_intoWaves 15 = .ok (.if_icmp .ge 49, 3) := by decide +kernel
theorem dX0_intoWaves_18 : decode cX0_intoWaves 18 = .ok (.aload_n 0, 1) := by decide +kernel
theorem dX0_intoWaves_19 : decode cX0_intoWaves 19 = .ok (.iload_n 3, 1) := by decide +kernel
theorem dX0_intoWaves_20 : decode cX0_intoWaves 20 = .ok (.invokevirtual 20, 3) := by decide +kernel
theorem dX0_intoWaves_23 : decode cX0_intoWaves 23 = .ok (.iconst 0, 1) := by decide +kernel
theorem dX0_intoWaves_24 : decode cX0_intoWaves 24 = .ok (.istore 5, 2) := by decide +kernel
theorem dX0_intoWaves_26 : decode cX0_intoWaves 26 = .ok (.iload 5, 2) := by decide +kernel
theorem dX0_intoWaves_28 : decode cX0_intoWaves 28 = .ok (.iload_n 3, 1) := by decide +kernel
theorem dX0_intoWaves_29 : decode cX0_intoWaves 29 = .ok (.if_icmp .ge 26, 3) := by decide +kernel
theorem dX0_intoWaves_32 : decode cX0_intoWaves 32 = .ok (.iload 5, 2) := by decide +kernel
theorem dX0_intoWaves_34 : decode cX0_intoWaves 34 = .ok (.iload 4, 2) := by decide +kernel
theorem dX0_intoWaves_36 : decode cX0_intoWaves 36 = .ok (.iand, 1) := by decide +kernel
theorem dX0_intoWaves_37 : decode cX0_intoWaves 37 = .ok (.ifCond .ne 12, 3) := by decide +kernel
theorem dX0_intoWaves_40 : decode cX0_intoWaves 40 = .ok (.aload_n 0, 1) := by decide +kernel
theorem dX0_intoWaves_41 : decode cX0_intoWaves 41 = .ok (.iload 5, 2) := by decide +kernel
theorem dX0_intoWaves_43 : decode cX0_intoWaves 43 = .ok (.iload 4, 2) := by decide +kernel
theorem dX0_intoWaves_45 : decode cX0_intoWaves 45 = .ok (.iload_n 2, 1) := by decide +kernel
theorem dX0_intoWaves_46 : decode cX0_intoWaves 46 = .ok (.invokevirtual 23, 3) := by decide +kernel
theorem dX0_intoWaves_49 : decode cX0_intoWaves 49 = .ok (.iinc 5 1, 3) := by decide +kernel
theorem dX0_intoWaves_52 : decode cX0_intoWaves 52 = .ok (.goto (-26), 3) := by decide +kernel
theorem dX0_intoWaves_55 : decode cX0_intoWaves 55 = .ok (.iload 4, 2) := by decide +kernel
theorem dX0_intoWaves_57 : decode cX0_intoWaves 57 = .ok (.iconst 2, 1) := by decide +kernel
theorem dX0_intoWaves_58 : decode cX0_intoWaves 58 = .ok (.imul, 1) := by decide +kernel
theorem dX0_intoWaves_59 : decode cX0_intoWaves 59 = .ok (.istore 4, 2) := by decide +kernel
theorem dX0_intoWaves_61 : decode cX0_intoWaves 61 = .ok (.goto (-49), 3) := by decide +kernel
theorem dX0_intoWaves_64 : decode cX0_intoWaves 64 = .ok (.return_, 1) := by decide +kernel
theorem dX0_reorder_0 : decode cX0_reorder 0 = .ok (.iconst 0, 1) := by decide +kernel
theorem dX0_reorder_1 : decode cX0_reorder 1 = .ok (.istore_n 2, 1) := by decide +kernel
theorem dX0_reorder_2 : decode cX0_reorder 2 = .ok (.iload_n 2, 1) := by decide +kernel
theorem dX0_reorder_3 : decode cX0_reorder 3 = .ok (.iconst 1, 1) := by decide +kernel
theorem dX0_reorder_4 : decode cX0_reorder 4 = .ok (.iload_n 1, 1) := by decide +kernel
theorem dX0_reorder_5 : decode cX0_reorder 5 = .ok (.ishl, 1) := by decide +kernel
theorem dX0_reorder_6 : decode cX0_reorder 6 = .ok (.if_icmp .ge 38, 3) := by decide +kernel
theorem dX0_reorder_9 : decode cX0_reorder 9 = .ok (.iload_n 2, 1) := by decide +kernel
theorem dX0_reorder_10 : decode cX0_reorder 10 = .ok (.iload_n 1, 1) := by decide +kernel
theorem dX0_reorder_11 : decode cX0_reorder 11 = .ok (.invokestatic 27, 3) := by decide +kernel
theorem dX0_reorder_14 : decode cX0_reorder 14 = .ok (.istore_n 3, 1) := by decide +kernel
theorem dX0_reorder_15 : decode cX0_reorder 15 = .ok (.iload_n 2, 1) := by decide +kernel
theorem dX0_reorder_16 : decode cX0_reorder 16 = .ok (.iload_n 3, 1) := by decide +kernel
theorem dX0_reorder_17 : decode cX0_reorder 17 = .ok (.if_icmp .ge 21, 3) := by decide +kernel
theorem dX0_reorder_20 : decode cX0_reorder 20 = .ok (.aload_n 0, 1) := by decide +kernel
theorem dX0_reorder_21 : decode cX0_reorder 21 = .ok (.getfield 9, 3) := by decide +kernel
theorem dX0_reorder_24 : decode cX0_reorder 24 = .ok (.iload_n 2, 1) := by decide +kernel
theorem dX0_reorder_25 : decode cX0_reorder 25 = .ok (.iload_n 3, 1) := by decide +kernel
theorem dX0_reorder_26 : decode cX0_reorder 26 = .ok (.invokestatic 31, 3) := by decide +kernel
theorem dX0_reorder_29 : decode cX0_reorder 29 = .ok (.aload_n 0, 1) := by decide +kernel
theorem dX0_reorder_30 : decode cX0_reorder 30 = .ok (.getfield 13, 3) := by decide +kernel
theorem dX0_reorder_33 : decode cX0_reorder 33 = .ok (.iload_n 2, 1) := by decide +kernel
theorem dX0_reorder_34 : decode cX0_reorder 34 = .ok (.iload_n 3, 1) := by decide +kernel
theorem dX0_reorder_35 : decode cX0_reorder 35 = .ok (.invokestatic 31, 3) := by decide +kernel
theorem dX0_reorder_38 : decode cX0_reorder 38 = .ok (.iinc 2 1, 3) := by decide +kernel
theorem dX0_reorder_41 : decode cX0_reorder 41 = .ok (.goto (-39), 3) := by decide +kernel
theorem dX0_reorder_44 : decode cX0_reorder 44 = .ok (.return_, 1) := by decide +kernel
theorem dX0_bitsTurnedRound_0 : decode cX0_bitsTurnedRound 0 = .ok (.iconst 0, 1) := by decide +kernel
theorem dX0_bitsTurnedRound_1 : decode cX0_bitsTurnedRound 1 = .ok (.istore_n 2, 1) := by decide +kernel
theorem dX0_bitsTurnedRound_2 : decode cX0_bitsTurnedRound 2 = .ok (.iconst 0, 1) := by decide +kernel
theorem dX0_bitsTurnedRound_3 : decode cX0_bitsTurnedRound 3 = .ok (.istore_n 3, 1) := by decide +kernel
theorem dX0_bitsTurnedRound_4 : decode cX0_bitsTurnedRound 4 = .ok (.iload_n 3, 1) := by decide +kernel
theorem dX0_bitsTurnedRound_5 : decode cX0_bitsTurnedRound 5 = .ok (.iload_n 1, 1) := by decide +kernel
theorem dX0_bitsTurnedRound_6 : decode cX0_bitsTurnedRound 6 = .ok (.if_icmp .ge 19, 3) := by decide +kernel
theorem dX0_bitsTurnedRound_9 : decode cX0_bitsTurnedRound 9 = .ok (.iload_n 2, 1) := by decide +kernel
theorem dX0_bitsTurnedRound_10 : decode cX0_bitsTurnedRound 10 = .ok (.iconst 2, 1) := by decide +kernel
theorem dX0_bitsTurnedRound_11 : decode cX0_bitsTurnedRound 11 = .ok (.imul, 1) := by decide +kernel
theorem dX0_bitsTurnedRound_12 : decode cX0_bitsTurnedRound 12 = .ok (.iload_n 0, 1) := by decide +kernel
theorem dX0_bitsTurnedRound_13 : decode cX0_bitsTurnedRound 13 = .ok (.iload_n 3, 1) := by decide +kernel
theorem dX0_bitsTurnedRound_14 : decode cX0_bitsTurnedRound 14 = .ok (.ishr, 1) := by decide +kernel
theorem dX0_bitsTurnedRound_15 : decode cX0_bitsTurnedRound 15 = .ok (.iconst 1, 1) := by decide +kernel
theorem dX0_bitsTurnedRound_16 : decode cX0_bitsTurnedRound 16 = .ok (.iand, 1) := by decide +kernel
theorem dX0_bitsTurnedRound_17 : decode cX0_bitsTurnedRound 17 = .ok (.iadd, 1) := by decide +kernel
theorem dX0_bitsTurnedRound_18 : decode cX0_bitsTurnedRound 18 = .ok (.istore_n 2, 1) := by decide +kernel
theorem dX0_bitsTurnedRound_19 : decode cX0_bitsTurnedRound 19 = .ok (.iinc 3 1, 3) := by decide +kernel
theorem dX0_bitsTurnedRound_22 : decode cX0_bitsTurnedRound 22 = .ok (.goto (-18), 3) := by decide +kernel
theorem dX0_bitsTurnedRound_25 : decode cX0_bitsTurnedRound 25 = .ok (.iload_n 2, 1) := by decide +kernel
theorem dX0_bitsTurnedRound_26 : decode cX0_bitsTurnedRound 26 = .ok (.ireturn, 1) := by decide +kernel
theorem dX0_swap_0 : decode cX0_swap 0 = .ok (.aload_n 0, 1) := by decide +kernel
theorem dX0_swap_1 : decode cX0_swap 1 = .ok (.iload_n 1, 1) := by decide +kernel
theorem dX0_swap_2 : decode cX0_swap 2 = .ok (.iaload, 1) := by decide +kernel
theorem dX0_swap_3 : decode cX0_swap 3 = .ok (.istore_n 3, 1) := by decide +kernel
theorem dX0_swap_4 : decode cX0_swap 4 = .ok (.aload_n 0, 1) := by decide +kernel
theorem dX0_swap_5 : decode cX0_swap 5 = .ok (.iload_n 1, 1) := by decide +kernel
theorem dX0_swap_6 : decode cX0_swap 6 = .ok (.aload_n 0, 1) := by decide +kernel
theorem dX0_swap_7 : decode cX0_swap 7 = .ok (.iload_n 2, 1) := by decide +kernel
theorem dX0_swap_8 : decode cX0_swap 8 = .ok (.iaload, 1) := by decide +kernel
theorem dX0_swap_9 : decode cX0_swap 9 = .ok (.iastore, 1) := by decide +kernel
theorem dX0_swap_10 : decode cX0_swap 10 = .ok (.aload_n 0, 1) := by decide +kernel
theorem dX0_swap_11 : decode cX0_swap 11 = .ok (.iload_n 2, 1) := by decide +kernel
theorem dX0_swap_12 : decode cX0_swap 12 = .ok (.iload_n 3, 1) := by decide +kernel
theorem dX0_swap_13 : decode cX0_swap 13 = .ok (.iastore, 1) := by decide +kernel
theorem dX0_swap_14 : decode cX0_swap 14 = .ok (.return_, 1) := by decide +kernel
theorem dX0_makeRoom_0 : decode cX0_makeRoom 0 = .ok (.iconst 0, 1) := by decide +kernel
theorem dX0_makeRoom_1 : decode cX0_makeRoom 1 = .ok (.istore_n 2, 1) := by decide +kernel
theorem dX0_makeRoom_2 : decode cX0_makeRoom 2 = .ok (.iload_n 2, 1) := by decide +kernel
theorem dX0_makeRoom_3 : decode cX0_makeRoom 3 = .ok (.iconst 2, 1) := by decide +kernel
theorem dX0_makeRoom_4 : decode cX0_makeRoom 4 = .ok (.if_icmp .ge 76, 3) := by decide +kernel
theorem dX0_makeRoom_7 : decode cX0_makeRoom 7 = .ok (.aload_n 0, 1) := by decide +kernel
theorem dX0_makeRoom_8 : decode cX0_makeRoom 8 = .ok (.iload_n 1, 1) := by decide +kernel
theorem dX0_makeRoom_9 : decode cX0_makeRoom 9 = .ok (.invokevirtual 35, 3) := by decide +kernel
theorem dX0_makeRoom_12 : decode cX0_makeRoom 12 = .ok (.ifCond .eq 68, 3) := by decide +kernel
theorem dX0_makeRoom_15 : decode cX0_makeRoom 15 = .ok (.iconst 0, 1) := by decide +kernel
theorem dX0_makeRoom_16 : decode cX0_makeRoom 16 = .ok (.istore_n 3, 1) := by decide +kernel
theorem dX0_makeRoom_17 : decode cX0_makeRoom 17 = .ok (.iload_n 3, 1) := by decide +kernel
theorem dX0_makeRoom_18 : decode cX0_makeRoom 18 = .ok (.iload_n 1, 1) := by decide +kernel
theorem dX0_makeRoom_19 : decode cX0_makeRoom 19 = .ok (.if_icmp .ge 45, 3) := by decide +kernel
theorem dX0_makeRoom_22 : decode cX0_makeRoom 22 = .ok (.aload_n 0, 1) := by decide +kernel
theorem dX0_makeRoom_23 : decode cX0_makeRoom 23 = .ok (.getfield 9, 3) := by decide +kernel
theorem dX0_makeRoom_26 : decode cX0_makeRoom 26 = .ok (.iload_n 3, 1) := by decide +kernel
theorem dX0_makeRoom_27 : decode cX0_makeRoom 27 = .ok (.aload_n 0, 1) := by decide +kernel
theorem dX0_makeRoom_28 : decode cX0_makeRoom 28 = .ok (.getfield 9, 3) := by decide +kernel
theorem dX0_makeRoom_31 : decode cX0_makeRoom 31 = .ok (.iload_n 3, 1) := by decide +kernel
theorem dX0_makeRoom_32 : decode cX0_makeRoom 32 = .ok (.iaload, 1) := by decide +kernel
theorem dX0_makeRoom_33 : decode cX0_makeRoom 33 = .ok (.i2l, 1) := by decide +kernel
theorem dX0_makeRoom_34 : decode cX0_makeRoom 34 = .ok (.iconst 1, 1) := by decide +kernel
theorem dX0_makeRoom_35 : decode cX0_makeRoom 35 = .ok (.invokestatic 39, 3) := by decide +kernel
theorem dX0_makeRoom_38 : decode cX0_makeRoom 38 = .ok (.l2i, 1) := by decide +kernel
theorem dX0_makeRoom_39 : decode cX0_makeRoom 39 = .ok (.iastore, 1) := by decide +kernel
theorem dX0_makeRoom_40 : decode cX0_makeRoom 40 = .ok (.aload_n 0, 1) := by decide +kernel
theorem dX0_makeRoom_41 : decode cX0_makeRoom 41 = .ok (.getfield 13, 3) := by decide +kernel
theorem dX0_makeRoom_44 : decode cX0_makeRoom 44 = .ok (.iload_n 3, 1) := by decide +kernel
theorem dX0_makeRoom_45 : decode cX0_makeRoom 45 = .ok (.aload_n 0, 1) := by decide +kernel
theorem dX0_makeRoom_46 : decode cX0_makeRoom 46 = .ok (.getfield 13, 3) := by decide +kernel
theorem dX0_makeRoom_49 : decode cX0_makeRoom 49 = .ok (.iload_n 3, 1) := by decide +kernel
theorem dX0_makeRoom_50 : decode cX0_makeRoom 50 = .ok (.iaload, 1) := by decide +kernel
theorem dX0_makeRoom_51 : decode cX0_makeRoom 51 = .ok (.i2l, 1) := by decide +kernel
theorem dX0_makeRoom_52 : decode cX0_makeRoom 52 = .ok (.iconst 1, 1) := by decide +kernel
theorem dX0_makeRoom_53 : decode cX0_makeRoom 53 = .ok (.invokestatic 39, 3) := by decide +kernel
theorem dX0_makeRoom_56 : decode cX0_makeRoom 56 = .ok (.l2i, 1) := by decide +kernel
theorem dX0_makeRoom_57 : decode cX0_makeRoom 57 = .ok (.iastore, 1) := by decide +kernel
theorem dX0_makeRoom_58 : decode cX0_makeRoom 58 = .ok (.iinc 3 1, 3) := by decide +kernel
theorem dX0_makeRoom_61 : decode cX0_makeRoom 61 = .ok (.goto (-44), 3) := by decide +kernel
theorem dX0_makeRoom_64 : decode cX0_makeRoom 64 = .ok (.aload_n 0, 1) := by decide +kernel
theorem dX0_makeRoom_65 : decode cX0_makeRoom 65 = .ok (.dup, 1) := by decide +kernel
theorem dX0_makeRoom_66 : decode cX0_makeRoom 66 = .ok (.getfield 45, 3) := by decide +kernel
theorem dX0_makeRoom_69 : decode cX0_makeRoom 69 = .ok (.iconst 1, 1) := by decide +kernel
theorem dX0_makeRoom_70 : decode cX0_makeRoom 70 = .ok (.iadd, 1) := by decide +kernel
theorem dX0_makeRoom_71 : decode cX0_makeRoom 71 = .ok (.putfield 45, 3) := by decide +kernel
theorem dX0_makeRoom_74 : decode cX0_makeRoom 74 = .ok (.iinc 2 1, 3) := by decide +kernel
theorem dX0_makeRoom_77 : decode cX0_makeRoom 77 = .ok (.goto (-75), 3) := by decide +kernel
theorem dX0_makeRoom_80 : decode cX0_makeRoom 80 = .ok (.return_, 1) := by decide +kernel
theorem dX0_isTooBig_0 : decode cX0_isTooBig 0 = .ok (.iconst 0, 1) := by decide +kernel
theorem dX0_isTooBig_1 : decode cX0_isTooBig 1 = .ok (.istore_n 2, 1) := by decide +kernel
theorem dX0_isTooBig_2 : decode cX0_isTooBig 2 = .ok (.iload_n 2, 1) := by decide +kernel
theorem dX0_isTooBig_3 : decode cX0_isTooBig 3 = .ok (.iload_n 1, 1) := by decide +kernel
theorem dX0_isTooBig_4 : decode cX0_isTooBig 4 = .ok (.if_icmp .ge 45, 3) := by decide +kernel
theorem dX0_isTooBig_7 : decode cX0_isTooBig 7 = .ok (.aload_n 0, 1) := by decide +kernel
theorem dX0_isTooBig_8 : decode cX0_isTooBig 8 = .ok (.getfield 9, 3) := by decide +kernel
theorem dX0_isTooBig_11 : decode cX0_isTooBig 11 = .ok (.iload_n 2, 1) := by decide +kernel
theorem dX0_isTooBig_12 : decode cX0_isTooBig 12 = .ok (.iaload, 1) := by decide +kernel
theorem dX0_isTooBig_13 : decode cX0_isTooBig 13 = .ok (.i2l, 1) := by decide +kernel
theorem dX0_isTooBig_14 : decode cX0_isTooBig 14 = .ok (.invokestatic 49, 3) := by decide +kernel
theorem dX0_isTooBig_17 : decode cX0_isTooBig 17 = .ok (.ldc2_w 53, 3) := by decide +kernel
theorem dX0_isTooBig_20 : decode cX0_isTooBig 20 = .ok (.lcmp, 1) := by decide +kernel
theorem dX0_isTooBig_21 : decode cX0_isTooBig 21 = .ok (.ifCond .ge 20, 3) := by decide +kernel
theorem dX0_isTooBig_24 : decode cX0_isTooBig 24 = .ok (.aload_n 0, 1) := by decide +kernel
theorem dX0_isTooBig_25 : decode cX0_isTooBig 25 = .ok (.getfield 13, 3) := by decide +kernel
theorem dX0_isTooBig_28 : decode cX0_isTooBig 28 = .ok (.iload_n 2, 1) := by decide +kernel
theorem dX0_isTooBig_29 : decode cX0_isTooBig 29 = .ok (.iaload, 1) := by decide +kernel
theorem dX0_isTooBig_30 : decode cX0_isTooBig 30 = .ok (.i2l, 1) := by decide +kernel
theorem dX0_isTooBig_31 : decode cX0_isTooBig 31 = .ok (.invokestatic 49, 3) := by decide +kernel
theorem dX0_isTooBig_34 : decode cX0_isTooBig 34 = .ok (.ldc2_w 53, 3) := by decide +kernel
theorem dX0_isTooBig_37 : decode cX0_isTooBig 37 = .ok (.lcmp, 1) := by decide +kernel
theorem dX0_isTooBig_38 : decode cX0_isTooBig 38 = .ok (.ifCond .lt 5, 3) := by decide +kernel
theorem dX0_isTooBig_41 : decode cX0_isTooBig 41 = .ok (.iconst 1, 1) := by decide +kernel
theorem dX0_isTooBig_42 : decode cX0_isTooBig 42 = .ok (.ireturn, 1) := by decide +kernel
theorem dX0_isTooBig_43 : decode cX0_isTooBig 43 = .ok (.iinc 2 1, 3) := by decide +kernel
theorem dX0_isTooBig_46 : decode cX0_isTooBig 46 = .ok (.goto (-44), 3) := by decide +kernel
theorem dX0_isTooBig_49 : decode cX0_isTooBig 49 = .ok (.iconst 0, 1) := by decide +kernel
theorem dX0_isTooBig_50 : decode cX0_isTooBig 50 = .ok (.ireturn, 1) := by decide +kernel
theorem dX0_cross_0 : decode cX0_cross 0 = .ok (.iload_n 1, 1) := by decide +kernel
theorem dX0_cross_1 : decode cX0_cross 1 = .ok (.iload_n 2, 1) := by decide +kernel
theorem dX0_cross_2 : decode cX0_cross 2 = .ok (.iadd, 1) := by decide +kernel
theorem dX0_cross_3 : decode cX0_cross 3 = .ok (.istore 4, 2) := by decide +kernel
theorem dX0_cross_5 : decode cX0_cross 5 = .ok (.iload_n 1, 1) := by decide +kernel
theorem dX0_cross_6 : decode cX0_cross 6 = .ok (.iload_n 2, 1) := by decide +kernel
theorem dX0_cross_7 : decode cX0_cross 7 = .ok (.iconst 1, 1) := by decide +kernel
theorem dX0_cross_8 : decode cX0_cross 8 = .ok (.isub, 1) := by decide +kernel
theorem dX0_cross_9 : decode cX0_cross 9 = .ok (.iand, 1) := by decide +kernel
theorem dX0_cross_10 : decode cX0_cross 10 = .ok (.bipush 16, 2) := by decide +kernel
theorem dX0_cross_12 : decode cX0_cross 12 = .ok (.imul, 1) := by decide +kernel
theorem dX0_cross_13 : decode cX0_cross 13 = .ok (.iload_n 2, 1) := by decide +kernel
theorem dX0_cross_14 : decode cX0_cross 14 = .ok (.idiv, 1) := by decide +kernel
theorem dX0_cross_15 : decode cX0_cross 15 = .ok (.istore 5, 2) := by decide +kernel
theorem dX0_cross_17 : decode cX0_cross 17 = .ok (.iload 5, 2) := by decide +kernel
theorem dX0_cross_19 : decode cX0_cross 19 = .ok (.invokestatic 55, 3) := by decide +kernel
theorem dX0_cross_22 : decode cX0_cross 22 = .ok (.lstore 6, 2) := by decide +kernel
theorem dX0_cross_24 : decode cX0_cross 24 = .ok (.iload_n 3, 1) := by decide +kernel
theorem dX0_cross_25 : decode cX0_cross 25 = .ok (.ifCond .eq 12, 3) := by decide +kernel
theorem dX0_cross_28 : decode cX0_cross 28 = .ok (.iload 5, 2) := by decide +kernel
theorem dX0_cross_30 : decode cX0_cross 30 = .ok (.invokestatic 59, 3) := by decide +kernel
theorem dX0_cross_33 : decode cX0_cross 33 = .ok (.lneg, 1) := by decide +kernel
theorem dX0_cross_34 : decode cX0_cross 34 = .ok (.goto 8, 3) := by decide +kernel
theorem dX0_cross_37 : decode cX0_cross 37 = .ok (.iload 5, 2) := by decide +kernel
theorem dX0_cross_39 : decode cX0_cross 39 = .ok (.invokestatic 59, 3) := by decide +kernel
theorem dX0_cross_42 : decode cX0_cross 42 = .ok (.lstore 8, 2) := by decide +kernel
theorem dX0_cross_44 : decode cX0_cross 44 = .ok (.aload_n 0, 1) := by decide +kernel
theorem dX0_cross_45 : decode cX0_cross 45 = .ok (.getfield 9, 3) := by decide +kernel
theorem dX0_cross_48 : decode cX0_cross 48 = .ok (.iload 4, 2) := by decide +kernel
theorem dX0_cross_50 : decode cX0_cross 50 = .ok (.iaload, 1) := by decide +kernel
theorem dX0_cross_51 : decode cX0_cross 51 = .ok (.i2l, 1) := by decide +kernel
theorem dX0_cross_52 : decode cX0_cross 52 = .ok (.lload 6, 2) := by decide +kernel
theorem dX0_cross_54 : decode cX0_cross 54 = .ok (.lmul, 1) := by decide +kernel
theorem dX0_cross_55 : decode cX0_cross 55 = .ok (.aload_n 0, 1) := by decide +kernel
theorem dX0_cross_56 : decode cX0_cross 56 = .ok (.getfield 13, 3) := by decide +kernel
theorem dX0_cross_59 : decode cX0_cross 59 = .ok (.iload 4, 2) := by decide +kernel
theorem dX0_cross_61 : decode cX0_cross 61 = .ok (.iaload, 1) := by decide +kernel
theorem dX0_cross_62 : decode cX0_cross 62 = .ok (.i2l, 1) := by decide +kernel
theorem dX0_cross_63 : decode cX0_cross 63 = .ok (.lload 8, 2) := by decide +kernel
theorem dX0_cross_65 : decode cX0_cross 65 = .ok (.lmul, 1) := by decide +kernel
theorem dX0_cross_66 : decode cX0_cross 66 = .ok (.ladd, 1) := by decide +kernel
theorem dX0_cross_67 : decode cX0_cross 67 = .ok (.bipush 31, 2) := by decide +kernel
theorem dX0_cross_69 : decode cX0_cross 69 = .ok (.invokestatic 39, 3) := by decide +kernel
theorem dX0_cross_72 : decode cX0_cross 72 = .ok (.lstore 10, 2) := by decide +kernel
theorem dX0_cross_74 : decode cX0_cross 74 = .ok (.aload_n 0, 1) := by decide +kernel
theorem dX0_cross_75 : decode cX0_cross 75 = .ok (.getfield 13, 3) := by decide +kernel
theorem dX0_cross_78 : decode cX0_cross 78 = .ok (.iload 4, 2) := by decide +kernel
theorem dX0_cross_80 : decode cX0_cross 80 = .ok (.iaload, 1) := by decide +kernel
theorem dX0_cross_81 : decode cX0_cross 81 = .ok (.i2l, 1) := by decide +kernel
theorem dX0_cross_82 : decode cX0_cross 82 = .ok (.lload 6, 2) := by decide +kernel
theorem dX0_cross_84 : decode cX0_cross 84 = .ok (.lmul, 1) := by decide +kernel
theorem dX0_cross_85 : decode cX0_cross 85 = .ok (.aload_n 0, 1) := by decide +kernel
theorem dX0_cross_86 : decode cX0_cross 86 = .ok (.getfield 9, 3) := by decide +kernel
theorem dX0_cross_89 : decode cX0_cross 89 = .ok (.iload 4, 2) := by decide +kernel
theorem dX0_cross_91 : decode cX0_cross 91 = .ok (.iaload, 1) := by decide +kernel
theorem dX0_cross_92 : decode cX0_cross 92 = .ok (.i2l, 1) := by decide +kernel
theorem dX0_cross_93 : decode cX0_cross 93 = .ok (.lload 8, 2) := by decide +kernel
theorem dX0_cross_95 : decode cX0_cross 95 = .ok (.lmul, 1) := by decide +kernel
theorem dX0_cross_96 : decode cX0_cross 96 = .ok (.lsub, 1) := by decide +kernel
theorem dX0_cross_97 : decode cX0_cross 97 = .ok (.bipush 31, 2) := by decide +kernel
theorem dX0_cross_99 : decode cX0_cross 99 = .ok (.invokestatic 39, 3) := by decide +kernel
theorem dX0_cross_102 : decode cX0_cross 102 = .ok (.lstore 12, 2) := by decide +kernel
theorem dX0_cross_104 : decode cX0_cross 104 = .ok (.aload_n 0, 1) := by decide +kernel
theorem dX0_cross_105 : decode cX0_cross 105 = .ok (.getfield 9, 3) := by decide +kernel
theorem dX0_cross_108 : decode cX0_cross 108 = .ok (.iload_n 1, 1) := by decide +kernel
theorem dX0_cross_109 : decode cX0_cross 109 = .ok (.iaload, 1) := by decide +kernel
theorem dX0_cross_110 : decode cX0_cross 110 = .ok (.i2l, 1) := by decide +kernel
theorem dX0_cross_111 : decode cX0_cross 111 = .ok (.lstore 14, 2) := by decide +kernel
theorem dX0_cross_113 : decode cX0_cross 113 = .ok (.aload_n 0, 1) := by decide +kernel
theorem dX0_cross_114 : decode cX0_cross 114 = .ok (.getfield 13, 3) := by decide +kernel
theorem dX0_cross_117 : decode cX0_cross 117 = .ok (.iload_n 1, 1) := by decide +kernel
theorem dX0_cross_118 : decode cX0_cross 118 = .ok (.iaload, 1) := by decide +kernel
theorem dX0_cross_119 : decode cX0_cross 119 = .ok (.i2l, 1) := by decide +kernel
theorem dX0_cross_120 : decode cX0_cross 120 = .ok (.lstore 16, 2) := by decide +kernel
theorem dX0_cross_122 : decode cX0_cross 122 = .ok (.aload_n 0, 1) := by decide +kernel
theorem dX0_cross_123 : decode cX0_cross 123 = .ok (.getfield 9, 3) := by decide +kernel
theorem dX0_cross_126 : decode cX0_cross 126 = .ok (.iload_n 1, 1) := by decide +kernel
theorem dX0_cross_127 : decode cX0_cross 127 = .ok (.lload 14, 2) := by decide +kernel
theorem dX0_cross_129 : decode cX0_cross 129 = .ok (.lload 10, 2) := by decide +kernel
theorem dX0_cross_131 : decode cX0_cross 131 = .ok (.ladd, 1) := by decide +kernel
theorem dX0_cross_132 : decode cX0_cross 132 = .ok (.invokestatic 62, 3) := by decide +kernel
theorem dX0_cross_135 : decode cX0_cross 135 = .ok (.iastore, 1) := by decide +kernel
theorem dX0_cross_136 : decode cX0_cross 136 = .ok (.aload_n 0, 1) := by decide +kernel
theorem dX0_cross_137 : decode cX0_cross 137 = .ok (.getfield 13, 3) := by decide +kernel
theorem dX0_cross_140 : decode cX0_cross 140 = .ok (.iload_n 1, 1) := by decide +kernel
theorem dX0_cross_141 : decode cX0_cross 141 = .ok (.lload 16, 2) := by decide +kernel
theorem dX0_cross_143 : decode cX0_cross 143 = .ok (.lload 12, 2) := by decide +kernel
theorem dX0_cross_145 : decode cX0_cross 145 = .ok (.ladd, 1) := by decide +kernel
theorem dX0_cross_146 : decode cX0_cross 146 = .ok (.invokestatic 62, 3) := by decide +kernel
theorem dX0_cross_149 : decode cX0_cross 149 = .ok (.iastore, 1) := by decide +kernel
theorem dX0_cross_150 : decode cX0_cross 150 = .ok (.aload_n 0, 1) := by decide +kernel
theorem dX0_cross_151 : decode cX0_cross 151 = .ok (.getfield 9, 3) := by decide +kernel
theorem dX0_cross_154 : decode cX0_cross 154 = .ok (.iload 4, 2) := by decide +kernel
theorem dX0_cross_156 : decode cX0_cross 156 = .ok (.lload 14, 2) := by decide +kernel
theorem dX0_cross_158 : decode cX0_cross 158 = .ok (.lload 10, 2) := by decide +kernel
theorem dX0_cross_160 : decode cX0_cross 160 = .ok (.lsub, 1) := by decide +kernel
theorem dX0_cross_161 : decode cX0_cross 161 = .ok (.invokestatic 62, 3) := by decide +kernel
theorem dX0_cross_164 : decode cX0_cross 164 = .ok (.iastore, 1) := by decide +kernel
theorem dX0_cross_165 : decode cX0_cross 165 = .ok (.aload_n 0, 1) := by decide +kernel
theorem dX0_cross_166 : decode cX0_cross 166 = .ok (.getfield 13, 3) := by decide +kernel
theorem dX0_cross_169 : decode cX0_cross 169 = .ok (.iload 4, 2) := by decide +kernel
theorem dX0_cross_171 : decode cX0_cross 171 = .ok (.lload 16, 2) := by decide +kernel
theorem dX0_cross_173 : decode cX0_cross 173 = .ok (.lload 12, 2) := by decide +kernel
theorem dX0_cross_175 : decode cX0_cross 175 = .ok (.lsub, 1) := by decide +kernel
theorem dX0_cross_176 : decode cX0_cross 176 = .ok (.invokestatic 62, 3) := by decide +kernel
theorem dX0_cross_179 : decode cX0_cross 179 = .ok (.iastore, 1) := by decide +kernel
theorem dX0_cross_180 : decode cX0_cross 180 = .ok (.return_, 1) := by decide +kernel
theorem dX0_cosineOf_0 : decode cX0_cosineOf 0 = .ok (.iload_n 0, 1) := by decide +kernel
theorem dX0_cosineOf_1 : decode cX0_cosineOf 1 = .ok (.bipush 8, 2) := by decide +kernel
theorem dX0_cosineOf_3 : decode cX0_cosineOf 3 = .ok (.if_icmp .gt 15, 3) := by decide +kernel
theorem dX0_cosineOf_6 : decode cX0_cosineOf 6 = .ok (.getstatic 66, 3) := by decide +kernel
theorem dX0_cosineOf_9 : decode cX0_cosineOf 9 = .ok (.bipush 8, 2) := by decide +kernel
theorem dX0_cosineOf_11 : decode cX0_cosineOf 11 = .ok (.iload_n 0, 1) := by decide +kernel
theorem dX0_cosineOf_12 : decode cX0_cosineOf 12 = .ok (.isub, 1) := by decide +kernel
theorem dX0_cosineOf_13 : decode cX0_cosineOf 13 = .ok (.iaload, 1) := by decide +kernel
theorem dX0_cosineOf_14 : decode cX0_cosineOf 14 = .ok (.i2l, 1) := by decide +kernel
theorem dX0_cosineOf_15 : decode cX0_cosineOf 15 = .ok (.goto 13, 3) := by decide +kernel
theorem dX0_cosineOf_18 : decode cX0_cosineOf 18 = .ok (.getstatic 66, 3) := by decide +kernel
theorem dX0_cosineOf_21 : decode cX0_cosineOf 21 = .ok (.iload_n 0, 1) := by decide +kernel
theorem dX0_cosineOf_22 : decode cX0_cosineOf 22 = .ok (.bipush 8, 2) := by decide +kernel
theorem dX0_cosineOf_24 : decode cX0_cosineOf 24 = .ok (.isub, 1) := by decide +kernel
theorem dX0_cosineOf_25 : decode cX0_cosineOf 25 = .ok (.iaload, 1) := by decide +kernel
theorem dX0_cosineOf_26 : decode cX0_cosineOf 26 = .ok (.ineg, 1) := by decide +kernel
theorem dX0_cosineOf_27 : decode cX0_cosineOf 27 = .ok (.i2l, 1) := by decide +kernel
theorem dX0_cosineOf_28 : decode cX0_cosineOf 28 = .ok (.lreturn, 1) := by decide +kernel
theorem dX0_sineOf_0 : decode cX0_sineOf 0 = .ok (.iload_n 0, 1) := by decide +kernel
theorem dX0_sineOf_1 : decode cX0_sineOf 1 = .ok (.bipush 8, 2) := by decide +kernel
theorem dX0_sineOf_3 : decode cX0_sineOf 3 = .ok (.if_icmp .gt 12, 3) := by decide +kernel
theorem dX0_sineOf_6 : decode cX0_sineOf 6 = .ok (.getstatic 66, 3) := by decide +kernel
theorem dX0_sineOf_9 : decode cX0_sineOf 9 = .ok (.iload_n 0, 1) := by decide +kernel
theorem dX0_sineOf_10 : decode cX0_sineOf 10 = .ok (.iaload, 1) := by decide +kernel
theorem dX0_sineOf_11 : decode cX0_sineOf 11 = .ok (.i2l, 1) := by decide +kernel
theorem dX0_sineOf_12 : decode cX0_sineOf 12 = .ok (.goto 12, 3) := by decide +kernel
theorem dX0_sineOf_15 : decode cX0_sineOf 15 = .ok (.getstatic 66, 3) := by decide +kernel
theorem dX0_sineOf_18 : decode cX0_sineOf 18 = .ok (.bipush 16, 2) := by decide +kernel
theorem dX0_sineOf_20 : decode cX0_sineOf 20 = .ok (.iload_n 0, 1) := by decide +kernel
theorem dX0_sineOf_21 : decode cX0_sineOf 21 = .ok (.isub, 1) := by decide +kernel
theorem dX0_sineOf_22 : decode cX0_sineOf 22 = .ok (.iaload, 1) := by decide +kernel
theorem dX0_sineOf_23 : decode cX0_sineOf 23 = .ok (.i2l, 1) := by decide +kernel
theorem dX0_sineOf_24 : decode cX0_sineOf 24 = .ok (.lreturn, 1) := by decide +kernel
theorem dX1_init_0 : decode cX1_init 0 = .ok (.aload_n 0, 1) := by decide +kernel
theorem dX1_init_1 : decode cX1_init 1 = .ok (.invokespecial 1, 3) := by decide +kernel
theorem dX1_init_4 : decode cX1_init 4 = .ok (.aload_n 0, 1) := by decide +kernel
theorem dX1_init_5 : decode cX1_init 5 = .ok (.iconst 5, 1) := by decide +kernel
theorem dX1_init_6 : decode cX1_init 6 = .ok (.newarray .int, 2) := by decide +kernel
theorem dX1_init_8 : decode cX1_init 8 = .ok (.putfield 9, 3) := by decide +kernel
theorem dX1_init_11 : decode cX1_init 11 = .ok (.aload_n 0, 1) := by decide +kernel
theorem dX1_init_12 : decode cX1_init 12 = .ok (.getfield 9, 3) := by decide +kernel
theorem dX1_init_15 : decode cX1_init 15 = .ok (.iconst 0, 1) := by decide +kernel
theorem dX1_init_16 : decode cX1_init 16 = .ok (.sipush 16384, 3) := by decide +kernel
theorem dX1_init_19 : decode cX1_init 19 = .ok (.iastore, 1) := by decide +kernel
theorem dX1_init_20 : decode cX1_init 20 = .ok (.return_, 1) := by decide +kernel
theorem dX1_answerTo_0 : decode cX1_answerTo 0 = .ok (.aload_n 0, 1) := by decide +kernel
theorem dX1_answerTo_1 : decode cX1_answerTo 1 = .ok (.getfield 9, 3) := by decide +kernel
theorem dX1_answerTo_4 : decode cX1_answerTo 4 = .ok (.iconst 0, 1) := by decide +kernel
theorem dX1_answerTo_5 : decode cX1_answerTo 5 = .ok (.iaload, 1) := by decide +kernel
theorem dX1_answerTo_6 : decode cX1_answerTo 6 = .ok (.i2l, 1) := by decide +kernel
theorem dX1_answerTo_7 : decode cX1_answerTo 7 = .ok (.iload_n 1, 1) := by decide +kernel
theorem dX1_answerTo_8 : decode cX1_answerTo 8 = .ok (.i2l, 1) := by decide +kernel
theorem dX1_answerTo_9 : decode cX1_answerTo 9 = .ok (.lmul, 1) := by decide +kernel
theorem dX1_answerTo_10 : decode cX1_answerTo 10 = .ok (.lstore_n 2, 1) := by decide +kernel
theorem dX1_answerTo_11 : decode cX1_answerTo 11 = .ok (.lload_n 2, 1) := by decide +kernel
theorem dX1_answerTo_12 : decode cX1_answerTo 12 = .ok (.aload_n 0, 1) := by decide +kernel
theorem dX1_answerTo_13 : decode cX1_answerTo 13 = .ok (.getfield 9, 3) := by decide +kernel
theorem dX1_answerTo_16 : decode cX1_answerTo 16 = .ok (.iconst 1, 1) := by decide +kernel
theorem dX1_answerTo_17 : decode cX1_answerTo 17 = .ok (.iaload, 1) := by decide +kernel
theorem dX1_answerTo_18 : decode cX1_answerTo 18 = .ok (.i2l, 1) := by decide +kernel
theorem dX1_answerTo_19 : decode cX1_answerTo 19 = .ok (.aload_n 0, 1) := by decide +kernel
theorem dX1_answerTo_20 : decode cX1_answerTo 20 = .ok (.getfield 13, 3) := by decide +kernel
theorem dX1_answerTo_23 : decode cX1_answerTo 23 = .ok (.i2l, 1) := by decide +kernel
theorem dX1_answerTo_24 : decode cX1_answerTo 24 = .ok (.lmul, 1) := by decide +kernel
theorem dX1_answerTo_25 : decode cX1_answerTo 25 = .ok (.ladd, 1) := by decide +kernel
theorem dX1_answerTo_26 : decode cX1_answerTo 26 = .ok (.lstore_n 2, 1) := by decide +kernel
theorem dX1_answerTo_27 : decode cX1_answerTo 27 = .ok (.lload_n 2, 1) := by decide +kernel
theorem dX1_answerTo_28 : decode cX1_answerTo 28 = .ok (.aload_n 0, 1) := by decide +kernel
theorem dX1_answerTo_29 : decode cX1_answerTo 29 = .ok (.getfield 9, 3) := by decide +kernel
theorem dX1_answerTo_32 : decode cX1_answerTo 32 = .ok (.iconst 2, 1) := by decide +kernel
theorem dX1_answerTo_33 : decode cX1_answerTo 33 = .ok (.iaload, 1) := by decide +kernel
theorem dX1_answerTo_34 : decode cX1_answerTo 34 = .ok (.i2l, 1) := by decide +kernel
theorem dX1_answerTo_35 : decode cX1_answerTo 35 = .ok (.aload_n 0, 1) := by decide +kernel
theorem dX1_answerTo_36 : decode cX1_answerTo 36 = .ok (.getfield 17, 3) := by decide +kernel
theorem dX1_answerTo_39 : decode cX1_answerTo 39 = .ok (.i2l, 1) := by decide +kernel
theorem dX1_answerTo_40 : decode cX1_answerTo 40 = .ok (.lmul, 1) := by decide +kernel
theorem dX1_answerTo_41 : decode cX1_answerTo 41 = .ok (.ladd, 1) := by decide +kernel
theorem dX1_answerTo_42 : decode cX1_answerTo 42 = .ok (.lstore_n 2, 1) := by decide +kernel
theorem dX1_answerTo_43 : decode cX1_answerTo 43 = .ok (.lload_n 2, 1) := by decide +kernel
theorem dX1_answerTo_44 : decode cX1_answerTo 44 = .ok (.aload_n 0, 1) := by decide +kernel
theorem dX1_answerTo_45 : decode cX1_answerTo 45 = .ok (.getfield 9, 3) := by decide +kernel
theorem dX1_answerTo_48 : decode cX1_answerTo 48 = .ok (.iconst 3, 1) := by decide +kernel
theorem dX1_answerTo_49 : decode cX1_answerTo 49 = .ok (.iaload, 1) := by decide +kernel
theorem dX1_answerTo_50 : decode cX1_answerTo 50 = .ok (.i2l, 1) := by decide +kernel
theorem dX1_answerTo_51 : decode cX1_answerTo 51 = .ok (.aload_n 0, 1) := by decide +kernel
theorem dX1_answerTo_52 : decode cX1_answerTo 52 = .ok (.getfield 20, 3) := by decide +kernel
theorem dX1_answerTo_55 : decode cX1_answerTo 55 = .ok (.i2l, 1) := by decide +kernel
theorem dX1_answerTo_56 : decode cX1_answerTo 56 = .ok (.lmul, 1) := by decide +kernel
theorem dX1_answerTo_57 : decode cX1_answerTo 57 = .ok (.lsub, 1) := by decide +kernel
theorem dX1_answerTo_58 : decode cX1_answerTo 58 = .ok (.lstore_n 2, 1) := by decide +kernel
theorem dX1_answerTo_59 : decode cX1_answerTo 59 = .ok (.lload_n 2, 1) := by decide +kernel
theorem dX1_answerTo_60 : decode cX1_answerTo 60 = .ok (.aload_n 0, 1) := by decide +kernel
theorem dX1_answerTo_61 : decode cX1_answerTo 61 = .ok (.getfield 9, 3) := by decide +kernel
theorem dX1_answerTo_64 : decode cX1_answerTo 64 = .ok (.iconst 4, 1) := by decide +kernel
theorem dX1_answerTo_65 : decode cX1_answerTo 65 = .ok (.iaload, 1) := by decide +kernel
theorem dX1_answerTo_66 : decode cX1_answerTo 66 = .ok (.i2l, 1) := by decide +kernel
theorem dX1_answerTo_67 : decode cX1_answerTo 67 = .ok (.aload_n 0, 1) := by decide +kernel
theorem dX1_answerTo_68 : decode cX1_answerTo 68 = .ok (.getfield 23, 3) := by decide +kernel
theorem dX1_answerTo_71 : decode cX1_answerTo 71 = .ok (.i2l, 1) := by decide +kernel
theorem dX1_answerTo_72 : decode cX1_answerTo 72 = .ok (.lmul, 1) := by decide +kernel
theorem dX1_answerTo_73 : decode cX1_answerTo 73 = .ok (.lsub, 1) := by decide +kernel
theorem dX1_answerTo_74 : decode cX1_answerTo 74 = .ok (.lstore_n 2, 1) := by decide +kernel
theorem dX1_answerTo_75 : decode cX1_answerTo 75 = .ok (.lload_n 2, 1) := by decide +kernel
theorem dX1_answerTo_76 : decode cX1_answerTo 76 = .ok (.bipush 14, 2) := by decide +kernel
theorem dX1_answerTo_78 : decode cX1_answerTo 78 = .ok (.invokestatic 26, 3) := by decide +kernel
theorem dX1_answerTo_81 : decode cX1_answerTo 81 = .ok (.invokestatic 32, 3) := by decide +kernel
theorem dX1_answerTo_84 : decode cX1_answerTo 84 = .ok (.istore 4, 2) := by decide +kernel
theorem dX1_answerTo_86 : decode cX1_answerTo 86 = .ok (.aload_n 0, 1) := by decide +kernel
theorem dX1_answerTo_87 : decode cX1_answerTo 87 = .ok (.aload_n 0, 1) := by decide +kernel
theorem dX1_answerTo_88 : decode cX1_answerTo 88 = .ok (.getfield 13, 3) := by decide +kernel
theorem dX1_answerTo_91 : decode cX1_answerTo 91 = .ok (.putfield 17, 3) := by decide +kernel
theorem dX1_answerTo_94 : decode cX1_answerTo 94 = .ok (.aload_n 0, 1) := by decide +kernel
theorem dX1_answerTo_95 : decode cX1_answerTo 95 = .ok (.iload_n 1, 1) := by decide +kernel
theorem dX1_answerTo_96 : decode cX1_answerTo 96 = .ok (.putfield 13, 3) := by decide +kernel
theorem dX1_answerTo_99 : decode cX1_answerTo 99 = .ok (.aload_n 0, 1) := by decide +kernel
theorem dX1_answerTo_100 : decode cX1_answerTo 100 = .ok (.aload_n 0, 1) := by decide +kernel
theorem dX1_answerTo_101 : decode cX1_answerTo 101 = .ok (.getfield 20, 3) := by decide +kernel
theorem dX1_answerTo_104 : decode cX1_answerTo 104 = .ok (.putfield 23, 3) := by decide +kernel
theorem dX1_answerTo_107 : decode cX1_answerTo 107 = .ok (.aload_n 0, 1) := by decide +kernel
theorem dX1_answerTo_108 : decode cX1_answerTo 108 = .ok (.iload 4, 2) := by decide +kernel
theorem dX1_answerTo_110 : decode cX1_answerTo 110 = .ok (.putfield 20, 3) := by decide +kernel
theorem dX1_answerTo_113 : decode cX1_answerTo 113 = .ok (.iload 4, 2) := by decide +kernel
theorem dX1_answerTo_115 : decode cX1_answerTo 115 = .ok (.ireturn, 1) := by decide +kernel
theorem dX1_forget_0 : decode cX1_forget 0 = .ok (.aload_n 0, 1) := by decide +kernel
theorem dX1_forget_1 : decode cX1_forget 1 = .ok (.iconst 0, 1) := by decide +kernel
theorem dX1_forget_2 : decode cX1_forget 2 = .ok (.putfield 13, 3) := by decide +kernel
theorem dX1_forget_5 : decode cX1_forget 5 = .ok (.aload_n 0, 1) := by decide +kernel
theorem dX1_forget_6 : decode cX1_forget 6 = .ok (.iconst 0, 1) := by decide +kernel
theorem dX1_forget_7 : decode cX1_forget 7 = .ok (.putfield 17, 3) := by decide +kernel
theorem dX1_forget_10 : decode cX1_forget 10 = .ok (.aload_n 0, 1) := by decide +kernel
theorem dX1_forget_11 : decode cX1_forget 11 = .ok (.iconst 0, 1) := by decide +kernel
theorem dX1_forget_12 : decode cX1_forget 12 = .ok (.putfield 20, 3) := by decide +kernel
theorem dX1_forget_15 : decode cX1_forget 15 = .ok (.aload_n 0, 1) := by decide +kernel
theorem dX1_forget_16 : decode cX1_forget 16 = .ok (.iconst 0, 1) := by decide +kernel
theorem dX1_forget_17 : decode cX1_forget 17 = .ok (.putfield 23, 3) := by decide +kernel
theorem dX1_forget_20 : decode cX1_forget 20 = .ok (.return_, 1) := by decide +kernel
theorem dX2_init_0 : decode cX2_init 0 = .ok (.aload_n 0, 1) := by decide +kernel
theorem dX2_init_1 : decode cX2_init 1 = .ok (.invokespecial 1, 3) := by decide +kernel
theorem dX2_init_4 : decode cX2_init 4 = .ok (.aload_n 0, 1) := by decide +kernel
theorem dX2_init_5 : decode cX2_init 5 = .ok (.bipush 16, 2) := by decide +kernel
theorem dX2_init_7 : decode cX2_init 7 = .ok (.newarray .int, 2) := by decide +kernel
theorem dX2_init_9 : decode cX2_init 9 = .ok (.putfield 9, 3) := by decide +kernel
theorem dX2_init_12 : decode cX2_init 12 = .ok (.aload_n 0, 1) := by decide +kernel
theorem dX2_init_13 : decode cX2_init 13 = .ok (.bipush 16, 2) := by decide +kernel
theorem dX2_init_15 : decode cX2_init 15 = .ok (.newarray .int, 2) := by decide +kernel
theorem dX2_init_17 : decode cX2_init 17 = .ok (.putfield 13, 3) := by decide +kernel
theorem dX2_init_20 : decode cX2_init 20 = .ok (.return_, 1) := by decide +kernel
theorem dX2_answerTo_0 : decode cX2_answerTo 0 = .ok (.aload_n 0, 1) := by decide +kernel
theorem dX2_answerTo_1 : decode cX2_answerTo 1 = .ok (.iload_n 1, 1) := by decide +kernel
theorem dX2_answerTo_2 : decode cX2_answerTo 2 = .ok (.invokevirtual 16, 3) := by decide +kernel
theorem dX2_answerTo_5 : decode cX2_answerTo 5 = .ok (.lconst 0, 1) := by decide +kernel
theorem dX2_answerTo_6 : decode cX2_answerTo 6 = .ok (.lstore_n 2, 1) := by decide +kernel
theorem dX2_answerTo_7 : decode cX2_answerTo 7 = .ok (.iconst 0, 1) := by decide +kernel
theorem dX2_answerTo_8 : decode cX2_answerTo 8 = .ok (.istore 4, 2) := by decide +kernel
theorem dX2_answerTo_10 : decode cX2_answerTo 10 = .ok (.iload 4, 2) := by decide +kernel
theorem dX2_answerTo_12 : decode cX2_answerTo 12 = .ok (.bipush 16, 2) := by decide +kernel
theorem dX2_answerTo_14 : decode cX2_answerTo 14 = .ok (.if_icmp .ge 29, 3) := by decide +kernel
theorem dX2_answerTo_17 : decode cX2_answerTo 17 = .ok (.lload_n 2, 1) := by decide +kernel
theorem dX2_answerTo_18 : decode cX2_answerTo 18 = .ok (.aload_n 0, 1) := by decide +kernel
theorem dX2_answerTo_19 : decode cX2_answerTo 19 = .ok (.getfield 9, 3) := by decide +kernel
theorem dX2_answerTo_22 : decode cX2_answerTo 22 = .ok (.iload 4, 2) := by decide +kernel
theorem dX2_answerTo_24 : decode cX2_answerTo 24 = .ok (.iaload, 1) := by decide +kernel
theorem dX2_answerTo_25 : decode cX2_answerTo 25 = .ok (.i2l, 1) := by decide +kernel
theorem dX2_answerTo_26 : decode cX2_answerTo 26 = .ok (.aload_n 0, 1) := by decide +kernel
theorem dX2_answerTo_27 : decode cX2_answerTo 27 = .ok (.getfield 13, 3) := by decide +kernel
theorem dX2_answerTo_30 : decode cX2_answerTo 30 = .ok (.iload 4, 2) := by decide +kernel
theorem dX2_answerTo_32 : decode cX2_answerTo 32 = .ok (.iaload, 1) := by decide +kernel
theorem dX2_answerTo_33 : decode cX2_answerTo 33 = .ok (.i2l, 1) := by decide +kernel
theorem dX2_answerTo_34 : decode cX2_answerTo 34 = .ok (.lmul, 1) := by decide +kernel
theorem dX2_answerTo_35 : decode cX2_answerTo 35 = .ok (.ladd, 1) := by decide +kernel
theorem dX2_answerTo_36 : decode cX2_answerTo 36 = .ok (.lstore_n 2, 1) := by decide +kernel
theorem dX2_answerTo_37 : decode cX2_answerTo 37 = .ok (.iinc 4 1, 3) := by decide +kernel
theorem dX2_answerTo_40 : decode cX2_answerTo 40 = .ok (.goto (-30), 3) := by decide +kernel
theorem dX2_answerTo_43 : decode cX2_answerTo 43 = .ok (.lload_n 2, 1) := by decide +kernel
theorem dX2_answerTo_44 : decode cX2_answerTo 44 = .ok (.bipush 15, 2) := by decide +kernel
theorem dX2_answerTo_46 : decode cX2_answerTo 46 = .ok (.invokestatic 20, 3) := by decide +kernel
theorem dX2_answerTo_49 : decode cX2_answerTo 49 = .ok (.invokestatic 26, 3) := by decide +kernel
theorem dX2_answerTo_52 : decode cX2_answerTo 52 = .ok (.ireturn, 1) := by decide +kernel
theorem dX2_takeIn_0 : decode cX2_takeIn 0 = .ok (.bipush 15, 2) := by decide +kernel
theorem dX2_takeIn_2 : decode cX2_takeIn 2 = .ok (.istore_n 2, 1) := by decide +kernel
theorem dX2_takeIn_3 : decode cX2_takeIn 3 = .ok (.iload_n 2, 1) := by decide +kernel
theorem dX2_takeIn_4 : decode cX2_takeIn 4 = .ok (.ifCond .le 23, 3) := by decide +kernel
theorem dX2_takeIn_7 : decode cX2_takeIn 7 = .ok (.aload_n 0, 1) := by decide +kernel
theorem dX2_takeIn_8 : decode cX2_takeIn 8 = .ok (.getfield 13, 3) := by decide +kernel
theorem dX2_takeIn_11 : decode cX2_takeIn 11 = .ok (.iload_n 2, 1) := by decide +kernel
theorem dX2_takeIn_12 : decode cX2_takeIn 12 = .ok (.aload_n 0, 1) := by decide +kernel
theorem dX2_takeIn_13 : decode cX2_takeIn 13 = .ok (.getfield 13, 3) := by decide +kernel
theorem dX2_takeIn_16 : decode cX2_takeIn 16 = .ok (.iload_n 2, 1) := by decide +kernel
theorem dX2_takeIn_17 : decode cX2_takeIn 17 = .ok (.iconst 1, 1) := by decide +kernel
theorem dX2_takeIn_18 : decode cX2_takeIn 18 = .ok (.isub, 1) := by decide +kernel
theorem dX2_takeIn_19 : decode cX2_takeIn 19 = .ok (.iaload, 1) := by decide +kernel
theorem dX2_takeIn_20 : decode cX2_takeIn 20 = .ok (.iastore, 1) := by decide +kernel
theorem dX2_takeIn_21 : decode cX2_takeIn 21 = .ok (.iinc 2 (-1), 3) := by decide +kernel
theorem dX2_takeIn_24 : decode cX2_takeIn 24 = .ok (.goto (-21), 3) := by decide +kernel
theorem dX2_takeIn_27 : decode cX2_takeIn 27 = .ok (.aload_n 0, 1) := by decide +kernel
theorem dX2_takeIn_28 : decode cX2_takeIn 28 = .ok (.getfield 13, 3) := by decide +kernel
theorem dX2_takeIn_31 : decode cX2_takeIn 31 = .ok (.iconst 0, 1) := by decide +kernel
theorem dX2_takeIn_32 : decode cX2_takeIn 32 = .ok (.iload_n 1, 1) := by decide +kernel
theorem dX2_takeIn_33 : decode cX2_takeIn 33 = .ok (.iastore, 1) := by decide +kernel
theorem dX2_takeIn_34 : decode cX2_takeIn 34 = .ok (.return_, 1) := by decide +kernel
theorem dX2_forget_0 : decode cX2_forget 0 = .ok (.iconst 0, 1) := by decide +kernel
theorem dX2_forget_1 : decode cX2_forget 1 = .ok (.istore_n 1, 1) := by decide +kernel
theorem dX2_forget_2 : decode cX2_forget 2 = .ok (.iload_n 1, 1) := by decide +kernel
theorem dX2_forget_3 : decode cX2_forget 3 = .ok (.bipush 16, 2) := by decide +kernel
theorem dX2_forget_5 : decode cX2_forget 5 = .ok (.if_icmp .ge 16, 3) := by decide +kernel
theorem dX2_forget_8 : decode cX2_forget 8 = .ok (.aload_n 0, 1) := by decide +kernel
theorem dX2_forget_9 : decode cX2_forget 9 = .ok (.getfield 13, 3) := by decide +kernel
theorem dX2_forget_12 : decode cX2_forget 12 = .ok (.iload_n 1, 1) := by decide +kernel
theorem dX2_forget_13 : decode cX2_forget 13 = .ok (.iconst 0, 1) := by decide +kernel
theorem dX2_forget_14 : decode cX2_forget 14 = .ok (.iastore, 1) := by decide +kernel
theorem dX2_forget_15 : decode cX2_forget 15 = .ok (.iinc 1 1, 3) := by decide +kernel
theorem dX2_forget_18 : decode cX2_forget 18 = .ok (.goto (-16), 3) := by decide +kernel
theorem dX2_forget_21 : decode cX2_forget 21 = .ok (.return_, 1) := by decide +kernel
theorem dX3_init_0 : decode cX3_init 0 = .ok (.aload_n 0, 1) := by decide +kernel
theorem dX3_init_1 : decode cX3_init 1 = .ok (.invokespecial 1, 3) := by decide +kernel
theorem dX3_init_4 : decode cX3_init 4 = .ok (.return_, 1) := by decide +kernel
theorem dX3_turnByAngle_0 : decode cX3_turnByAngle 0 = .ok (.lload_n 1, 1) := by decide +kernel
theorem dX3_turnByAngle_1 : decode cX3_turnByAngle 1 = .ok (.invokestatic 7, 3) := by decide +kernel
theorem dX3_turnByAngle_4 : decode cX3_turnByAngle 4 = .ok (.ldc2_w 15, 3) := by decide +kernel
theorem dX3_turnByAngle_7 : decode cX3_turnByAngle 7 = .ok (.lcmp, 1) := by decide +kernel
theorem dX3_turnByAngle_8 : decode cX3_turnByAngle 8 = .ok (.ifCond .le 7, 3) := by decide +kernel
theorem dX3_turnByAngle_11 : decode cX3_turnByAngle 11 = .ok (.iconst 1, 1) := by decide +kernel
theorem dX3_turnByAngle_12 : decode cX3_turnByAngle 12 = .ok (.goto 4, 3) := by decide +kernel
theorem dX3_turnByAngle_15 : decode cX3_turnByAngle 15 = .ok (.iconst 0, 1) := by decide +kernel
theorem dX3_turnByAngle_16 : decode cX3_turnByAngle 16 = .ok (.istore_n 3, 1) := by decide +kernel
theorem dX3_turnByAngle_17 : decode cX3_turnByAngle 17 = .ok (.aload_n 0, 1) := by decide +kernel
theorem dX3_turnByAngle_18 : decode cX3_turnByAngle 18 = .ok (.ldc2_w 17, 3) := by decide +kernel
theorem dX3_turnByAngle_21 : decode cX3_turnByAngle 21 = .ok (.putfield 19, 3) := by decide +kernel
theorem dX3_turnByAngle_24 : decode cX3_turnByAngle 24 = .ok (.aload_n 0, 1) := by decide +kernel
theorem dX3_turnByAngle_25 : decode cX3_turnByAngle 25 = .ok (.lconst 0, 1) := by decide +kernel
theorem dX3_turnByAngle_26 : decode cX3_turnByAngle 26 = .ok (.putfield 23, 3) := by decide +kernel
theorem dX3_turnByAngle_29 : decode cX3_turnByAngle 29 = .ok (.aload_n 0, 1) := by decide +kernel
theorem dX3_turnByAngle_30 : decode cX3_turnByAngle 30 = .ok (.lload_n 1, 1) := by decide +kernel
theorem dX3_turnByAngle_31 : decode cX3_turnByAngle 31 = .ok (.putfield 26, 3) := by decide +kernel
theorem dX3_turnByAngle_34 : decode cX3_turnByAngle 34 = .ok (.iload_n 3, 1) := by decide +kernel
theorem dX3_turnByAngle_35 : decode cX3_turnByAngle 35 = .ok (.ifCond .eq 26, 3) := by decide +kernel
theorem dX3_turnByAngle_38 : decode cX3_turnByAngle 38 = .ok (.aload_n 0, 1) := by decide +kernel
theorem dX3_turnByAngle_39 : decode cX3_turnByAngle 39 = .ok (.lload_n 1, 1) := by decide +kernel
theorem dX3_turnByAngle_40 : decode cX3_turnByAngle 40 = .ok (.lconst 0, 1) := by decide +kernel
theorem dX3_turnByAngle_41 : decode cX3_turnByAngle 41 = .ok (.lcmp, 1) := by decide +kernel
theorem dX3_turnByAngle_42 : decode cX3_turnByAngle 42 = .ok (.ifCond .ge 11, 3) := by decide +kernel
theorem dX3_turnByAngle_45 : decode cX3_turnByAngle 45 = .ok (.lload_n 1, 1) := by decide +kernel
theorem dX3_turnByAngle_46 : decode cX3_turnByAngle 46 = .ok (.ldc2_w 29, 3) := by decide +kernel
theorem dX3_turnByAngle_49 : decode cX3_turnByAngle 49 = .ok (.ladd, 1) := by decide +kernel
theorem dX3_turnByAngle_50 : decode cX3_turnByAngle 50 = .ok (.goto 8, 3) := by decide +kernel
theorem dX3_turnByAngle_53 : decode cX3_turnByAngle 53 = .ok (.lload_n 1, 1) := by decide +kernel
theorem dX3_turnByAngle_54 : decode cX3_turnByAngle 54 = .ok (.ldc2_w 29, 3) := by decide +kernel
theorem dX3_turnByAngle_57 : decode cX3_turnByAngle 57 = .ok (.lsub, 1) := by decide +kernel
theorem dX3_turnByAngle_58 : decode cX3_turnByAngle 58 = .ok (.putfield 26, 3) := by decide +kernel
theorem dX3_turnByAngle_61 : decode cX3_turnByAngle 61 = .ok (.iconst 0, 1) := by decide +kernel
theorem dX3_turnByAngle_62 : decode cX3_turnByAngle 62 = .ok (.istore 4, 2) := by decide +kernel
theorem dX3_turnByAngle_64 : decode cX3_turnByAngle 64 = .ok (.iload 4, 2) := by decide +kernel
theorem dX3_turnByAngle_66 : decode cX3_turnByAngle 66 = .ok (.bipush 30, 2) := by decide +kernel
theorem dX3_turnByAngle_68 : decode cX3_turnByAngle 68 = .ok (.if_icmp .ge 29, 3) := by decide +kernel
theorem dX3_turnByAngle_71 : decode cX3_turnByAngle 71 = .ok (.aload_n 0, 1) := by decide +kernel
theorem dX3_turnByAngle_72 : decode cX3_turnByAngle 72 = .ok (.iload 4, 2) := by decide +kernel
theorem dX3_turnByAngle_74 : decode cX3_turnByAngle 74 = .ok (.aload_n 0, 1) := by decide +kernel
theorem dX3_turnByAngle_75 : decode cX3_turnByAngle 75 = .ok (.getfield 26, 3) := by decide +kernel
theorem dX3_turnByAngle_78 : decode cX3_turnByAngle 78 = .ok (.lconst 0, 1) := by decide +kernel
theorem dX3_turnByAngle_79 : decode cX3_turnByAngle 79 = .ok (.lcmp, 1) := by decide +kernel
theorem dX3_turnByAngle_80 : decode cX3_turnByAngle 80 = .ok (.ifCond .lt 7, 3) := by decide +kernel
theorem dX3_turnByAngle_83 : decode cX3_turnByAngle 83 = .ok (.iconst 1, 1) := by decide +kernel
theorem dX3_turnByAngle_84 : decode cX3_turnByAngle 84 = .ok (.goto 4, 3) := by decide +kernel
theorem dX3_turnByAngle_87 : decode cX3_turnByAngle 87 = .ok (.iconst 0, 1) := by decide +kernel
theorem dX3_turnByAngle_88 : decode cX3_turnByAngle 88 = .ok (.invokevirtual 31, 3) := by decide +kernel
theorem dX3_turnByAngle_91 : decode cX3_turnByAngle 91 = .ok (.iinc 4 1, 3) := by decide +kernel
theorem dX3_turnByAngle_94 : decode cX3_turnByAngle 94 = .ok (.goto (-30), 3) := by decide +kernel
theorem dX3_turnByAngle_97 : decode cX3_turnByAngle 97 = .ok (.iload_n 3, 1) := by decide +kernel
theorem dX3_turnByAngle_98 : decode cX3_turnByAngle 98 = .ok (.ifCond .eq 21, 3) := by decide +kernel
theorem dX3_turnByAngle_101 : decode cX3_turnByAngle 101 = .ok (.aload_n 0, 1) := by decide +kernel
theorem dX3_turnByAngle_102 : decode cX3_turnByAngle 102 = .ok (.aload_n 0, 1) := by decide +kernel
theorem dX3_turnByAngle_103 : decode cX3_turnByAngle 103 = .ok (.getfield 19, 3) := by decide +kernel
theorem dX3_turnByAngle_106 : decode cX3_turnByAngle 106 = .ok (.lneg, 1) := by decide +kernel
theorem dX3_turnByAngle_107 : decode cX3_turnByAngle 107 = .ok (.putfield 19, 3) := by decide +kernel
theorem dX3_turnByAngle_110 : decode cX3_turnByAngle 110 = .ok (.aload_n 0, 1) := by decide +kernel
theorem dX3_turnByAngle_111 : decode cX3_turnByAngle 111 = .ok (.aload_n 0, 1) := by decide +kernel
theorem dX3_turnByAngle_112 : decode cX3_turnByAngle 112 = .ok (.getfield 23, 3) := by decide +kernel
theorem dX3_turnByAngle_115 : decode cX3_turnByAngle 115 = .ok (.lneg, 1) := by decide +kernel
theorem dX3_turnByAngle_116 : decode cX3_turnByAngle 116 = .ok (.putfield 23, 3) := by decide +kernel
theorem dX3_turnByAngle_119 : decode cX3_turnByAngle 119 = .ok (.return_, 1) := by decide +kernel
theorem dX3_turnToAxis_0 : decode cX3_turnToAxis 0 = .ok (.lload_n 1, 1) := by decide +kernel
theorem dX3_turnToAxis_1 : decode cX3_turnToAxis 1 = .ok (.lconst 0, 1) := by decide +kernel
theorem dX3_turnToAxis_2 : decode cX3_turnToAxis 2 = .ok (.lcmp, 1) := by decide +kernel
theorem dX3_turnToAxis_3 : decode cX3_turnToAxis 3 = .ok (.ifCond .ge 7, 3) := by decide +kernel
theorem dX3_turnToAxis_6 : decode cX3_turnToAxis 6 = .ok (.iconst 1, 1) := by decide +kernel
theorem dX3_turnToAxis_7 : decode cX3_turnToAxis 7 = .ok (.goto 4, 3) := by decide +kernel
theorem dX3_turnToAxis_10 : decode cX3_turnToAxis 10 = .ok (.iconst 0, 1) := by decide +kernel
theorem dX3_turnToAxis_11 : decode cX3_turnToAxis 11 = .ok (.istore 5, 2) := by decide +kernel
theorem dX3_turnToAxis_13 : decode cX3_turnToAxis 13 = .ok (.aload_n 0, 1) := by decide +kernel
theorem dX3_turnToAxis_14 : decode cX3_turnToAxis 14 = .ok (.iload 5, 2) := by decide +kernel
theorem dX3_turnToAxis_16 : decode cX3_turnToAxis 16 = .ok (.ifCond .eq 8, 3) := by decide +kernel
theorem dX3_turnToAxis_19 : decode cX3_turnToAxis 19 = .ok (.lload_n 1, 1) := by decide +kernel
theorem dX3_turnToAxis_20 : decode cX3_turnToAxis 20 = .ok (.lneg, 1) := by decide +kernel
theorem dX3_turnToAxis_21 : decode cX3_turnToAxis 21 = .ok (.goto 4, 3) := by decide +kernel
theorem dX3_turnToAxis_24 : decode cX3_turnToAxis 24 = .ok (.lload_n 1, 1) := by decide +kernel
theorem dX3_turnToAxis_25 : decode cX3_turnToAxis 25 = .ok (.putfield 19, 3) := by decide +kernel
theorem dX3_turnToAxis_28 : decode cX3_turnToAxis 28 = .ok (.aload_n 0, 1) := by decide +kernel
theorem dX3_turnToAxis_29 : decode cX3_turnToAxis 29 = .ok (.iload 5, 2) := by decide +kernel
theorem dX3_turnToAxis_31 : decode cX3_turnToAxis 31 = .ok (.ifCond .eq 8, 3) := by decide +kernel
theorem dX3_turnToAxis_34 : decode cX3_turnToAxis 34 = .ok (.lload_n 3, 1) := by decide +kernel
theorem dX3_turnToAxis_35 : decode cX3_turnToAxis 35 = .ok (.lneg, 1) := by decide +kernel
theorem dX3_turnToAxis_36 : decode cX3_turnToAxis 36 = .ok (.goto 4, 3) := by decide +kernel
theorem dX3_turnToAxis_39 : decode cX3_turnToAxis 39 = .ok (.lload_n 3, 1) := by decide +kernel
theorem dX3_turnToAxis_40 : decode cX3_turnToAxis 40 = .ok (.putfield 23, 3) := by decide +kernel
theorem dX3_turnToAxis_43 : decode cX3_turnToAxis 43 = .ok (.aload_n 0, 1) := by decide +kernel
theorem dX3_turnToAxis_44 : decode cX3_turnToAxis 44 = .ok (.iload 5, 2) := by decide +kernel
theorem dX3_turnToAxis_46 : decode cX3_turnToAxis 46 = .ok (.ifCond .eq 9, 3) := by decide +kernel
theorem dX3_turnToAxis_49 : decode cX3_turnToAxis 49 = .ok (.ldc2_w 35, 3) := by decide +kernel
theorem dX3_turnToAxis_52 : decode cX3_turnToAxis 52 = .ok (.goto 4, 3) := by decide +kernel
theorem dX3_turnToAxis_55 : decode cX3_turnToAxis 55 = .ok (.lconst 0, 1) := by decide +kernel
theorem dX3_turnToAxis_56 : decode cX3_turnToAxis 56 = .ok (.putfield 26, 3) := by decide +kernel
theorem dX3_turnToAxis_59 : decode cX3_turnToAxis 59 = .ok (.iconst 0, 1) := by decide +kernel
theorem dX3_turnToAxis_60 : decode cX3_turnToAxis 60 = .ok (.istore 6, 2) := by decide +kernel
theorem dX3_turnToAxis_62 : decode cX3_turnToAxis 62 = .ok (.iload 6, 2) := by decide +kernel
theorem dX3_turnToAxis_64 : decode cX3_turnToAxis 64 = .ok (.bipush 30, 2) := by decide +kernel
theorem dX3_turnToAxis_66 : decode cX3_turnToAxis 66 = .ok (.if_icmp .ge 29, 3) := by decide +kernel
theorem dX3_turnToAxis_69 : decode cX3_turnToAxis 69 = .ok (.aload_n 0, 1) := by decide +kernel
theorem dX3_turnToAxis_70 : decode cX3_turnToAxis 70 = .ok (.iload 6, 2) := by decide +kernel
theorem dX3_turnToAxis_72 : decode cX3_turnToAxis 72 = .ok (.aload_n 0, 1) := by decide +kernel
theorem dX3_turnToAxis_73 : decode cX3_turnToAxis 73 = .ok (.getfield 23, 3) := by decide +kernel
theorem dX3_turnToAxis_76 : decode cX3_turnToAxis 76 = .ok (.lconst 0, 1) := by decide +kernel
theorem dX3_turnToAxis_77 : decode cX3_turnToAxis 77 = .ok (.lcmp, 1) := by decide +kernel
theorem dX3_turnToAxis_78 : decode cX3_turnToAxis 78 = .ok (.ifCond .ge 7, 3) := by decide +kernel
theorem dX3_turnToAxis_81 : decode cX3_turnToAxis 81 = .ok (.iconst 1, 1) := by decide +kernel
theorem dX3_turnToAxis_82 : decode cX3_turnToAxis 82 = .ok (.goto 4, 3) := by decide +kernel
theorem dX3_turnToAxis_85 : decode cX3_turnToAxis 85 = .ok (.iconst 0, 1) := by decide +kernel
theorem dX3_turnToAxis_86 : decode cX3_turnToAxis 86 = .ok (.invokevirtual 31, 3) := by decide +kernel
theorem dX3_turnToAxis_89 : decode cX3_turnToAxis 89 = .ok (.iinc 6 1, 3) := by decide +kernel
theorem dX3_turnToAxis_92 : decode cX3_turnToAxis 92 = .ok (.goto (-30), 3) := by decide +kernel
theorem dX3_turnToAxis_95 : decode cX3_turnToAxis 95 = .ok (.return_, 1) := by decide +kernel
theorem dX3_turn_0 : decode cX3_turn 0 = .ok (.aload_n 0, 1) := by decide +kernel
theorem dX3_turn_1 : decode cX3_turn 1 = .ok (.getfield 19, 3) := by decide +kernel
theorem dX3_turn_4 : decode cX3_turn 4 = .ok (.iload_n 1, 1) := by decide +kernel
theorem dX3_turn_5 : decode cX3_turn 5 = .ok (.lshr, 1) := by decide +kernel
theorem dX3_turn_6 : decode cX3_turn 6 = .ok (.lstore_n 3, 1) := by decide +kernel
theorem dX3_turn_7 : decode cX3_turn 7 = .ok (.aload_n 0, 1) := by decide +kernel
theorem dX3_turn_8 : decode cX3_turn 8 = .ok (.getfield 23, 3) := by decide +kernel
theorem dX3_turn_11 : decode cX3_turn 11 = .ok (.iload_n 1, 1) := by decide +kernel
theorem dX3_turn_12 : decode cX3_turn 12 = .ok (.lshr, 1) := by decide +kernel
theorem dX3_turn_13 : decode cX3_turn 13 = .ok (.lstore 5, 2) := by decide +kernel
theorem dX3_turn_15 : decode cX3_turn 15 = .ok (.iload_n 2, 1) := by decide +kernel
theorem dX3_turn_16 : decode cX3_turn 16 = .ok (.ifCond .eq 42, 3) := by decide +kernel
theorem dX3_turn_19 : decode cX3_turn 19 = .ok (.aload_n 0, 1) := by decide +kernel
theorem dX3_turn_20 : decode cX3_turn 20 = .ok (.dup, 1) := by decide +kernel
theorem dX3_turn_21 : decode cX3_turn 21 = .ok (.getfield 19, 3) := by decide +kernel
theorem dX3_turn_24 : decode cX3_turn 24 = .ok (.lload 5, 2) := by decide +kernel
theorem dX3_turn_26 : decode cX3_turn 26 = .ok (.lsub, 1) := by decide +kernel
theorem dX3_turn_27 : decode cX3_turn 27 = .ok (.putfield 19, 3) := by decide +kernel
theorem dX3_turn_30 : decode cX3_turn 30 = .ok (.aload_n 0, 1) := by decide +kernel
theorem dX3_turn_31 : decode cX3_turn 31 = .ok (.dup, 1) := by decide +kernel
theorem dX3_turn_32 : decode cX3_turn 32 = .ok (.getfield 23, 3) := by decide +kernel
theorem dX3_turn_35 : decode cX3_turn 35 = .ok (.lload_n 3, 1) := by decide +kernel
theorem dX3_turn_36 : decode cX3_turn 36 = .ok (.ladd, 1) := by decide +kernel
theorem dX3_turn_37 : decode cX3_turn 37 = .ok (.putfield 23, 3) := by decide +kernel
theorem dX3_turn_40 : decode cX3_turn 40 = .ok (.aload_n 0, 1) := by decide +kernel
theorem dX3_turn_41 : decode cX3_turn 41 = .ok (.dup, 1) := by decide +kernel
theorem dX3_turn_42 : decode cX3_turn 42 = .ok (.getfield 26, 3) := by decide +kernel
theorem dX3_turn_45 : decode cX3_turn 45 = .ok (.getstatic 37, 3) := by decide +kernel
theorem dX3_turn_48 : decode cX3_turn 48 = .ok (.iload_n 1, 1) := by decide +kernel
theorem dX3_turn_49 : decode cX3_turn 49 = .ok (.iaload, 1) := by decide +kernel
theorem dX3_turn_50 : decode cX3_turn 50 = .ok (.i2l, 1) := by decide +kernel
theorem dX3_turn_51 : decode cX3_turn 51 = .ok (.lsub, 1) := by decide +kernel
theorem dX3_turn_52 : decode cX3_turn 52 = .ok (.putfield 26, 3) := by decide +kernel
theorem dX3_turn_55 : decode cX3_turn 55 = .ok (.goto 39, 3) := by decide +kernel
theorem dX3_turn_58 : decode cX3_turn 58 = .ok (.aload_n 0, 1) := by decide +kernel
theorem dX3_turn_59 : decode cX3_turn 59 = .ok (.dup, 1) := by decide +kernel
theorem dX3_turn_60 : decode cX3_turn 60 = .ok (.getfield 19, 3) := by decide +kernel
theorem dX3_turn_63 : decode cX3_turn 63 = .ok (.lload 5, 2) := by decide +kernel
theorem dX3_turn_65 : decode cX3_turn 65 = .ok (.ladd, 1) := by decide +kernel
theorem dX3_turn_66 : decode cX3_turn 66 = .ok (.putfield 19, 3) := by decide +kernel
theorem dX3_turn_69 : decode cX3_turn 69 = .ok (.aload_n 0, 1) := by decide +kernel
theorem dX3_turn_70 : decode cX3_turn 70 = .ok (.dup, 1) := by decide +kernel
theorem dX3_turn_71 : decode cX3_turn 71 = .ok (.getfield 23, 3) := by decide +kernel
theorem dX3_turn_74 : decode cX3_turn 74 = .ok (.lload_n 3, 1) := by decide +kernel
theorem dX3_turn_75 : decode cX3_turn 75 = .ok (.lsub, 1) := by decide +kernel
theorem dX3_turn_76 : decode cX3_turn 76 = .ok (.putfield 23, 3) := by decide +kernel
theorem dX3_turn_79 : decode cX3_turn 79 = .ok (.aload_n 0, 1) := by decide +kernel
theorem dX3_turn_80 : decode cX3_turn 80 = .ok (.dup, 1) := by decide +kernel
theorem dX3_turn_81 : decode cX3_turn 81 = .ok (.getfield 26, 3) := by decide +kernel
theorem dX3_turn_84 : decode cX3_turn 84 = .ok (.getstatic 37, 3) := by decide +kernel
theorem dX3_turn_87 : decode cX3_turn 87 = .ok (.iload_n 1, 1) := by decide +kernel
theorem dX3_turn_88 : decode cX3_turn 88 = .ok (.iaload, 1) := by decide +kernel
theorem dX3_turn_89 : decode cX3_turn 89 = .ok (.i2l, 1) := by decide +kernel
theorem dX3_turn_90 : decode cX3_turn 90 = .ok (.ladd, 1) := by decide +kernel
theorem dX3_turn_91 : decode cX3_turn 91 = .ok (.putfield 26, 3) := by decide +kernel
theorem dX3_turn_94 : decode cX3_turn 94 = .ok (.return_, 1) := by decide +kernel
theorem dX4_init_0 : decode cX4_init 0 = .ok (.aload_n 0, 1) := by decide +kernel
theorem dX4_init_1 : decode cX4_init 1 = .ok (.invokespecial 1, 3) := by decide +kernel
theorem dX4_init_4 : decode cX4_init 4 = .ok (.aload_n 0, 1) := by decide +kernel
theorem dX4_init_5 : decode cX4_init 5 = .ok (.new 7, 3) := by decide +kernel
theorem dX4_init_8 : decode cX4_init 8 = .ok (.dup, 1) := by decide +kernel
theorem dX4_init_9 : decode cX4_init 9 = .ok (.invokespecial 9, 3) := by decide +kernel
theorem dX4_init_12 : decode cX4_init 12 = .ok (.putfield 10, 3) := by decide +kernel
theorem dX4_init_15 : decode cX4_init 15 = .ok (.aload_n 0, 1) := by decide +kernel
theorem dX4_init_16 : decode cX4_init 16 = .ok (.iconst 4, 1) := by decide +kernel
theorem dX4_init_17 : decode cX4_init 17 = .ok (.anewarray 16, 3) := by decide +kernel
theorem dX4_init_20 : decode cX4_init 20 = .ok (.putfield 18, 3) := by decide +kernel
theorem dX4_init_23 : decode cX4_init 23 = .ok (.iconst 0, 1) := by decide +kernel
theorem dX4_init_24 : decode cX4_init 24 = .ok (.istore_n 1, 1) := by decide +kernel
theorem dX4_init_25 : decode cX4_init 25 = .ok (.iload_n 1, 1) := by decide +kernel
theorem dX4_init_26 : decode cX4_init 26 = .ok (.iconst 4, 1) := by decide +kernel
theorem dX4_init_27 : decode cX4_init 27 = .ok (.if_icmp .ge 22, 3) := by decide +kernel
theorem dX4_init_30 : decode cX4_init 30 = .ok (.aload_n 0, 1) := by decide +kernel
theorem dX4_init_31 : decode cX4_init 31 = .ok (.getfield 18, 3) := by decide +kernel
theorem dX4_init_34 : decode cX4_init 34 = .ok (.iload_n 1, 1) := by decide +kernel
theorem dX4_init_35 : decode cX4_init 35 = .ok (.new 16, 3) := by decide +kernel
theorem dX4_init_38 : decode cX4_init 38 = .ok (.dup, 1) := by decide +kernel
theorem dX4_init_39 : decode cX4_init 39 = .ok (.invokespecial 22, 3) := by decide +kernel
theorem dX4_init_42 : decode cX4_init 42 = .ok (.aastore, 1) := by decide +kernel
theorem dX4_init_43 : decode cX4_init 43 = .ok (.iinc 1 1, 3) := by decide +kernel
theorem dX4_init_46 : decode cX4_init 46 = .ok (.goto (-21), 3) := by decide +kernel
theorem dX4_init_49 : decode cX4_init 49 = .ok (.aload_n 0, 1) := by decide +kernel
theorem dX4_init_50 : decode cX4_init 50 = .ok (.new 23, 3) := by decide +kernel
theorem dX4_init_53 : decode cX4_init 53 = .ok (.dup, 1) := by decide +kernel
theorem dX4_init_54 : decode cX4_init 54 = .ok (.invokespecial 25, 3) := by decide +kernel
theorem dX4_init_57 : decode cX4_init 57 = .ok (.putfield 26, 3) := by decide +kernel
theorem dX4_init_60 : decode cX4_init 60 = .ok (.aload_n 0, 1) := by decide +kernel
theorem dX4_init_61 : decode cX4_init 61 = .ok (.new 30, 3) := by decide +kernel
theorem dX4_init_64 : decode cX4_init 64 = .ok (.dup, 1) := by decide +kernel
theorem dX4_init_65 : decode cX4_init 65 = .ok (.invokespecial 32, 3) := by decide +kernel
theorem dX4_init_68 : decode cX4_init 68 = .ok (.putfield 33, 3) := by decide +kernel
theorem dX4_init_71 : decode cX4_init 71 = .ok (.return_, 1) := by decide +kernel
theorem dX4_work_0 : decode cX4_work 0 = .ok (.iload_n 1, 1) := by decide +kernel
theorem dX4_work_1 : decode cX4_work 1 = .ok (.iload_n 3, 1) := by decide +kernel
theorem dX4_work_2 : decode cX4_work 2 = .ok (.bipush 31, 2) := by decide +kernel
theorem dX4_work_4 : decode cX4_work 4 = .ok (.invokestatic 37, 3) := by decide +kernel
theorem dX4_work_7 : decode cX4_work 7 = .ok (.ifCond .ne 11, 3) := by decide +kernel
theorem dX4_work_10 : decode cX4_work 10 = .ok (.new 41, 3) := by decide +kernel
theorem dX4_work_13 : decode cX4_work 13 = .ok (.dup, 1) := by decide +kernel
theorem dX4_work_14 : decode cX4_work 14 = .ok (.invokespecial 43, 3) := by decide +kernel
theorem dX4_work_17 : decode cX4_work 17 = .ok (.athrow, 1) := by decide +kernel
theorem dX4_work_18 : decode cX4_work 18 = .ok (.iload_n 1, 1) := by decide +kernel
theorem dX4_work_19 : decode cX4_work 19 = .ok (.iload_n 2, 1) := by decide +kernel
theorem dX4_work_20 : decode cX4_work 20 = .ok (.i2l, 1) := by decide +kernel
theorem dX4_work_21 : decode cX4_work 21 = .ok (.iload_n 3, 1) := by decide +kernel
theorem dX4_work_22 : decode cX4_work 22 = .ok (.i2l, 1) := by decide +kernel
theorem dX4_work_23 : decode cX4_work 23 = .ok (.bipush 31, 2) := by decide +kernel
theorem dX4_work_25 : decode cX4_work 25 = .ok (.invokestatic 44, 3) := by decide +kernel
theorem dX4_work_28 : decode cX4_work 28 = .ok (.invokestatic 48, 3) := by decide +kernel
theorem dX4_work_31 : decode cX4_work 31 = .ok (.ireturn, 1) := by decide +kernel
theorem dX4_small_0 : decode cX4_small 0 = .ok (.iload_n 1, 1) := by decide +kernel
theorem dX4_small_1 : decode cX4_small 1 = .ok (.iload_n 3, 1) := by decide +kernel
theorem dX4_small_2 : decode cX4_small 2 = .ok (.bipush 15, 2) := by decide +kernel
theorem dX4_small_4 : decode cX4_small 4 = .ok (.invokestatic 37, 3) := by decide +kernel
theorem dX4_small_7 : decode cX4_small 7 = .ok (.ifCond .eq 10, 3) := by decide +kernel
theorem dX4_small_10 : decode cX4_small 10 = .ok (.iload_n 2, 1) := by decide +kernel
theorem dX4_small_11 : decode cX4_small 11 = .ok (.invokestatic 52, 3) := by decide +kernel
theorem dX4_small_14 : decode cX4_small 14 = .ok (.ifCond .ne 11, 3) := by decide +kernel
theorem dX4_small_17 : decode cX4_small 17 = .ok (.new 41, 3) := by decide +kernel
theorem dX4_small_20 : decode cX4_small 20 = .ok (.dup, 1) := by decide +kernel
theorem dX4_small_21 : decode cX4_small 21 = .ok (.invokespecial 43, 3) := by decide +kernel
theorem dX4_small_24 : decode cX4_small 24 = .ok (.athrow, 1) := by decide +kernel
theorem dX4_small_25 : decode cX4_small 25 = .ok (.iload_n 1, 1) := by decide +kernel
theorem dX4_small_26 : decode cX4_small 26 = .ok (.iconst 2, 1) := by decide +kernel
theorem dX4_small_27 : decode cX4_small 27 = .ok (.if_icmp .gt 18, 3) := by decide +kernel
theorem dX4_small_30 : decode cX4_small 30 = .ok (.iload_n 3, 1) := by decide +kernel
theorem dX4_small_31 : decode cX4_small 31 = .ok (.invokestatic 52, 3) := by decide +kernel
theorem dX4_small_34 : decode cX4_small 34 = .ok (.ifCond .ne 11, 3) := by decide +kernel
theorem dX4_small_37 : decode cX4_small 37 = .ok (.new 41, 3) := by decide +kernel
theorem dX4_small_40 : decode cX4_small 40 = .ok (.dup, 1) := by decide +kernel
theorem dX4_small_41 : decode cX4_small 41 = .ok (.invokespecial 43, 3) := by decide +kernel
theorem dX4_small_44 : decode cX4_small 44 = .ok (.athrow, 1) := by decide +kernel
theorem dX4_small_45 : decode cX4_small 45 = .ok (.iload_n 1, 1) := by decide +kernel
theorem dX4_small_46 : decode cX4_small 46 = .ok (.iload_n 2, 1) := by decide +kernel
theorem dX4_small_47 : decode cX4_small 47 = .ok (.i2l, 1) := by decide +kernel
theorem dX4_small_48 : decode cX4_small 48 = .ok (.iload_n 3, 1) := by decide +kernel
theorem dX4_small_49 : decode cX4_small 49 = .ok (.i2l, 1) := by decide +kernel
theorem dX4_small_50 : decode cX4_small 50 = .ok (.bipush 15, 2) := by decide +kernel
theorem dX4_small_52 : decode cX4_small 52 = .ok (.invokestatic 44, 3) := by decide +kernel
theorem dX4_small_55 : decode cX4_small 55 = .ok (.invokestatic 56, 3) := by decide +kernel
theorem dX4_small_58 : decode cX4_small 58 = .ok (.ireturn, 1) := by decide +kernel
theorem dX4_narrow_0 : decode cX4_narrow 0 = .ok (.iload_n 1, 1) := by decide +kernel
theorem dX4_narrow_1 : decode cX4_narrow 1 = .ok (.i2l, 1) := by decide +kernel
theorem dX4_narrow_2 : decode cX4_narrow 2 = .ok (.bipush 16, 2) := by decide +kernel
theorem dX4_narrow_4 : decode cX4_narrow 4 = .ok (.invokestatic 59, 3) := by decide +kernel
theorem dX4_narrow_7 : decode cX4_narrow 7 = .ok (.invokestatic 56, 3) := by decide +kernel
theorem dX4_narrow_10 : decode cX4_narrow 10 = .ok (.ireturn, 1) := by decide +kernel
theorem dX4_tap_0 : decode cX4_tap 0 = .ok (.iload_n 1, 1) := by decide +kernel
theorem dX4_tap_1 : decode cX4_tap 1 = .ok (.bipush 16, 2) := by decide +kernel
theorem dX4_tap_3 : decode cX4_tap 3 = .ok (.invokestatic 63, 3) := by decide +kernel
theorem dX4_tap_6 : decode cX4_tap 6 = .ok (.ifCond .eq 10, 3) := by decide +kernel
theorem dX4_tap_9 : decode cX4_tap 9 = .ok (.iload_n 2, 1) := by decide +kernel
theorem dX4_tap_10 : decode cX4_tap 10 = .ok (.invokestatic 52, 3) := by decide +kernel
theorem dX4_tap_13 : decode cX4_tap 13 = .ok (.ifCond .ne 11, 3) := by decide +kernel
theorem dX4_tap_16 : decode cX4_tap 16 = .ok (.new 41, 3) := by decide +kernel
theorem dX4_tap_19 : decode cX4_tap 19 = .ok (.dup, 1) := by decide +kernel
theorem dX4_tap_20 : decode cX4_tap 20 = .ok (.invokespecial 43, 3) := by decide +kernel
theorem dX4_tap_23 : decode cX4_tap 23 = .ok (.athrow, 1) := by decide +kernel
theorem dX4_tap_24 : decode cX4_tap 24 = .ok (.aload_n 0, 1) := by decide +kernel
theorem dX4_tap_25 : decode cX4_tap 25 = .ok (.getfield 10, 3) := by decide +kernel
theorem dX4_tap_28 : decode cX4_tap 28 = .ok (.getfield 67, 3) := by decide +kernel
theorem dX4_tap_31 : decode cX4_tap 31 = .ok (.iload_n 1, 1) := by decide +kernel
theorem dX4_tap_32 : decode cX4_tap 32 = .ok (.iload_n 2, 1) := by decide +kernel
theorem dX4_tap_33 : decode cX4_tap 33 = .ok (.iastore, 1) := by decide +kernel
theorem dX4_tap_34 : decode cX4_tap 34 = .ok (.return_, 1) := by decide +kernel
theorem dX4_filter_0 : decode cX4_filter 0 = .ok (.iload_n 1, 1) := by decide +kernel
theorem dX4_filter_1 : decode cX4_filter 1 = .ok (.invokestatic 52, 3) := by decide +kernel
theorem dX4_filter_4 : decode cX4_filter 4 = .ok (.ifCond .ne 11, 3) := by decide +kernel
theorem dX4_filter_7 : decode cX4_filter 7 = .ok (.new 41, 3) := by decide +kernel
theorem dX4_filter_10 : decode cX4_filter 10 = .ok (.dup, 1) := by decide +kernel
theorem dX4_filter_11 : decode cX4_filter 11 = .ok (.invokespecial 43, 3) := by decide +kernel
theorem dX4_filter_14 : decode cX4_filter 14 = .ok (.athrow, 1) := by decide +kernel
theorem dX4_filter_15 : decode cX4_filter 15 = .ok (.aload_n 0, 1) := by decide +kernel
theorem dX4_filter_16 : decode cX4_filter 16 = .ok (.getfield 10, 3) := by decide +kernel
theorem dX4_filter_19 : decode cX4_filter 19 = .ok (.iload_n 1, 1) := by decide +kernel
theorem dX4_filter_20 : decode cX4_filter 20 = .ok (.invokevirtual 71, 3) := by decide +kernel
theorem dX4_filter_23 : decode cX4_filter 23 = .ok (.ireturn, 1) := by decide +kernel
theorem dX4_stage_0 : decode cX4_stage 0 = .ok (.iload_n 1, 1) := by decide +kernel
theorem dX4_stage_1 : decode cX4_stage 1 = .ok (.iconst 4, 1) := by decide +kernel
theorem dX4_stage_2 : decode cX4_stage 2 = .ok (.invokestatic 63, 3) := by decide +kernel
theorem dX4_stage_5 : decode cX4_stage 5 = .ok (.ifCond .eq 18, 3) := by decide +kernel
theorem dX4_stage_8 : decode cX4_stage 8 = .ok (.iload_n 2, 1) := by decide +kernel
theorem dX4_stage_9 : decode cX4_stage 9 = .ok (.iconst 5, 1) := by decide +kernel
theorem dX4_stage_10 : decode cX4_stage 10 = .ok (.invokestatic 63, 3) := by decide +kernel
theorem dX4_stage_13 : decode cX4_stage 13 = .ok (.ifCond .eq 10, 3) := by decide +kernel
theorem dX4_stage_16 : decode cX4_stage 16 = .ok (.iload_n 3, 1) := by decide +kernel
theorem dX4_stage_17 : decode cX4_stage 17 = .ok (.invokestatic 52, 3) := by decide +kernel
theorem dX4_stage_20 : decode cX4_stage 20 = .ok (.ifCond .ne 11, 3) := by decide +kernel
theorem dX4_stage_23 : decode cX4_stage 23 = .ok (.new 41, 3) := by decide +kernel
theorem dX4_stage_26 : decode cX4_stage 26 = .ok (.dup, 1) := by decide +kernel
theorem dX4_stage_27 : decode cX4_stage 27 = .ok (.invokespecial 43, 3) := by decide +kernel
theorem dX4_stage_30 : decode cX4_stage 30 = .ok (.athrow, 1) := by decide +kernel
theorem dX4_stage_31 : decode cX4_stage 31 = .ok (.aload_n 0, 1) := by decide +kernel
theorem dX4_stage_32 : decode cX4_stage 32 = .ok (.getfield 18, 3) := by decide +kernel
theorem dX4_stage_35 : decode cX4_stage 35 = .ok (.iload_n 1, 1) := by decide +kernel
theorem dX4_stage_36 : decode cX4_stage 36 = .ok (.aaload, 1) := by decide +kernel
theorem dX4_stage_37 : decode cX4_stage 37 = .ok (.getfield 75, 3) := by decide +kernel
theorem dX4_stage_40 : decode cX4_stage 40 = .ok (.iload_n 2, 1) := by decide +kernel
theorem dX4_stage_41 : decode cX4_stage 41 = .ok (.iload_n 3, 1) := by decide +kernel
theorem dX4_stage_42 : decode cX4_stage 42 = .ok (.iastore, 1) := by decide +kernel
theorem dX4_stage_43 : decode cX4_stage 43 = .ok (.return_, 1) := by decide +kernel
theorem dX4_chain_0 : decode cX4_chain 0 = .ok (.iload_n 1, 1) := by decide +kernel
theorem dX4_chain_1 : decode cX4_chain 1 = .ok (.invokestatic 52, 3) := by decide +kernel
theorem dX4_chain_4 : decode cX4_chain 4 = .ok (.ifCond .ne 11, 3) := by decide +kernel
theorem dX4_chain_7 : decode cX4_chain 7 = .ok (.new 41, 3) := by decide +kernel
theorem dX4_chain_10 : decode cX4_chain 10 = .ok (.dup, 1) := by decide +kernel
theorem dX4_chain_11 : decode cX4_chain 11 = .ok (.invokespecial 43, 3) := by decide +kernel
theorem dX4_chain_14 : decode cX4_chain 14 = .ok (.athrow, 1) := by decide +kernel
theorem dX4_chain_15 : decode cX4_chain 15 = .ok (.iload_n 1, 1) := by decide +kernel
theorem dX4_chain_16 : decode cX4_chain 16 = .ok (.istore_n 2, 1) := by decide +kernel
theorem dX4_chain_17 : decode cX4_chain 17 = .ok (.iconst 0, 1) := by decide +kernel
theorem dX4_chain_18 : decode cX4_chain 18 = .ok (.istore_n 3, 1) := by decide +kernel
theorem dX4_chain_19 : decode cX4_chain 19 = .ok (.iload_n 3, 1) := by decide +kernel
theorem dX4_chain_20 : decode cX4_chain 20 = .ok (.iconst 4, 1) := by decide +kernel
theorem dX4_chain_21 : decode cX4_chain 21 = .ok (.if_icmp .ge 20, 3) := by decide +kernel
theorem dX4_chain_24 : decode cX4_chain 24 = .ok (.aload_n 0, 1) := by decide +kernel
theorem dX4_chain_25 : decode cX4_chain 25 = .ok (.getfield 18, 3) := by decide +kernel
theorem dX4_chain_28 : decode cX4_chain 28 = .ok (.iload_n 3, 1) := by decide +kernel
theorem dX4_chain_29 : decode cX4_chain 29 = .ok (.aaload, 1) := by decide +kernel
theorem dX4_chain_30 : decode cX4_chain 30 = .ok (.iload_n 2, 1) := by decide +kernel
theorem dX4_chain_31 : decode cX4_chain 31 = .ok (.invokevirtual 78, 3) := by decide +kernel
theorem dX4_chain_34 : decode cX4_chain 34 = .ok (.istore_n 2, 1) := by decide +kernel
theorem dX4_chain_35 : decode cX4_chain 35 = .ok (.iinc 3 1, 3) := by decide +kernel
theorem dX4_chain_38 : decode cX4_chain 38 = .ok (.goto (-19), 3) := by decide +kernel
theorem dX4_chain_41 : decode cX4_chain 41 = .ok (.iload_n 2, 1) := by decide +kernel
theorem dX4_chain_42 : decode cX4_chain 42 = .ok (.ireturn, 1) := by decide +kernel
theorem dX4_calm_0 : decode cX4_calm 0 = .ok (.aload_n 0, 1) := by decide +kernel
theorem dX4_calm_1 : decode cX4_calm 1 = .ok (.getfield 10, 3) := by decide +kernel
theorem dX4_calm_4 : decode cX4_calm 4 = .ok (.invokevirtual 79, 3) := by decide +kernel
theorem dX4_calm_7 : decode cX4_calm 7 = .ok (.iconst 0, 1) := by decide +kernel
theorem dX4_calm_8 : decode cX4_calm 8 = .ok (.istore_n 1, 1) := by decide +kernel
theorem dX4_calm_9 : decode cX4_calm 9 = .ok (.iload_n 1, 1) := by decide +kernel
theorem dX4_calm_10 : decode cX4_calm 10 = .ok (.iconst 4, 1) := by decide +kernel
theorem dX4_calm_11 : decode cX4_calm 11 = .ok (.if_icmp .ge 18, 3) := by decide +kernel
theorem dX4_calm_14 : decode cX4_calm 14 = .ok (.aload_n 0, 1) := by decide +kernel
theorem dX4_calm_15 : decode cX4_calm 15 = .ok (.getfield 18, 3) := by decide +kernel
theorem dX4_calm_18 : decode cX4_calm 18 = .ok (.iload_n 1, 1) := by decide +kernel
theorem dX4_calm_19 : decode cX4_calm 19 = .ok (.aaload, 1) := by decide +kernel
theorem dX4_calm_20 : decode cX4_calm 20 = .ok (.invokevirtual 82, 3) := by decide +kernel
theorem dX4_calm_23 : decode cX4_calm 23 = .ok (.iinc 1 1, 3) := by decide +kernel
theorem dX4_calm_26 : decode cX4_calm 26 = .ok (.goto (-17), 3) := by decide +kernel
theorem dX4_calm_29 : decode cX4_calm 29 = .ok (.return_, 1) := by decide +kernel
theorem dX4_put_0 : decode cX4_put 0 = .ok (.iload_n 1, 1) := by decide +kernel
theorem dX4_put_1 : decode cX4_put 1 = .ok (.bipush 32, 2) := by decide +kernel
theorem dX4_put_3 : decode cX4_put 3 = .ok (.invokestatic 63, 3) := by decide +kernel
theorem dX4_put_6 : decode cX4_put 6 = .ok (.ifCond .ne 11, 3) := by decide +kernel
theorem dX4_put_9 : decode cX4_put 9 = .ok (.new 41, 3) := by decide +kernel
theorem dX4_put_12 : decode cX4_put 12 = .ok (.dup, 1) := by decide +kernel
theorem dX4_put_13 : decode cX4_put 13 = .ok (.invokespecial 43, 3) := by decide +kernel
theorem dX4_put_16 : decode cX4_put 16 = .ok (.athrow, 1) := by decide +kernel
theorem dX4_put_17 : decode cX4_put 17 = .ok (.aload_n 0, 1) := by decide +kernel
theorem dX4_put_18 : decode cX4_put 18 = .ok (.getfield 26, 3) := by decide +kernel
theorem dX4_put_21 : decode cX4_put 21 = .ok (.getfield 83, 3) := by decide +kernel
theorem dX4_put_24 : decode cX4_put 24 = .ok (.iload_n 1, 1) := by decide +kernel
theorem dX4_put_25 : decode cX4_put 25 = .ok (.iload_n 2, 1) := by decide +kernel
theorem dX4_put_26 : decode cX4_put 26 = .ok (.iastore, 1) := by decide +kernel
theorem dX4_put_27 : decode cX4_put 27 = .ok (.aload_n 0, 1) := by decide +kernel
theorem dX4_put_28 : decode cX4_put 28 = .ok (.getfield 26, 3) := by decide +kernel
theorem dX4_put_31 : decode cX4_put 31 = .ok (.getfield 86, 3) := by decide +kernel
theorem dX4_put_34 : decode cX4_put 34 = .ok (.iload_n 1, 1) := by decide +kernel
theorem dX4_put_35 : decode cX4_put 35 = .ok (.iload_n 3, 1) := by decide +kernel
theorem dX4_put_36 : decode cX4_put 36 = .ok (.iastore, 1) := by decide +kernel
theorem dX4_put_37 : decode cX4_put 37 = .ok (.aload_n 0, 1) := by decide +kernel
theorem dX4_put_38 : decode cX4_put 38 = .ok (.getfield 26, 3) := by decide +kernel
theorem dX4_put_41 : decode cX4_put 41 = .ok (.iconst 0, 1) := by decide +kernel
theorem dX4_put_42 : decode cX4_put 42 = .ok (.putfield 89, 3) := by decide +kernel
theorem dX4_put_45 : decode cX4_put 45 = .ok (.return_, 1) := by decide +kernel
theorem dX4_transform_0 : decode cX4_transform 0 = .ok (.iload_n 1, 1) := by decide +kernel
theorem dX4_transform_1 : decode cX4_transform 1 = .ok (.ifCond .lt 8, 3) := by decide +kernel
theorem dX4_transform_4 : decode cX4_transform 4 = .ok (.iload_n 1, 1) := by decide +kernel
theorem dX4_transform_5 : decode cX4_transform 5 = .ok (.iconst 5, 1) := by decide +kernel
theorem dX4_transform_6 : decode cX4_transform 6 = .ok (.if_icmp .le 11, 3) := by decide +kernel
theorem dX4_transform_9 : decode cX4_transform 9 = .ok (.new 41, 3) := by decide +kernel
theorem dX4_transform_12 : decode cX4_transform 12 = .ok (.dup, 1) := by decide +kernel
theorem dX4_transform_13 : decode cX4_transform 13 = .ok (.invokespecial 43, 3) := by decide +kernel
theorem dX4_transform_16 : decode cX4_transform 16 = .ok (.athrow, 1) := by decide +kernel
theorem dX4_transform_17 : decode cX4_transform 17 = .ok (.aload_n 0, 1) := by decide +kernel
theorem dX4_transform_18 : decode cX4_transform 18 = .ok (.getfield 26, 3) := by decide +kernel
theorem dX4_transform_21 : decode cX4_transform 21 = .ok (.iload_n 1, 1) := by decide +kernel
theorem dX4_transform_22 : decode cX4_transform 22 = .ok (.iload_n 2, 1) := by decide +kernel
theorem dX4_transform_23 : decode cX4_transform 23 = .ok (.invokevirtual 93, 3) := by decide +kernel
theorem dX4_transform_26 : decode cX4_transform 26 = .ok (.aload_n 0, 1) := by decide +kernel
theorem dX4_transform_27 : decode cX4_transform 27 = .ok (.getfield 26, 3) := by decide +kernel
theorem dX4_transform_30 : decode cX4_transform 30 = .ok (.getfield 89, 3) := by decide +kernel
theorem dX4_transform_33 : decode cX4_transform 33 = .ok (.ireturn, 1) := by decide +kernel
theorem dX4_get_0 : decode cX4_get 0 = .ok (.iload_n 1, 1) := by decide +kernel
theorem dX4_get_1 : decode cX4_get 1 = .ok (.bipush 32, 2) := by decide +kernel
theorem dX4_get_3 : decode cX4_get 3 = .ok (.invokestatic 63, 3) := by decide +kernel
theorem dX4_get_6 : decode cX4_get 6 = .ok (.ifCond .ne 11, 3) := by decide +kernel
theorem dX4_get_9 : decode cX4_get 9 = .ok (.new 41, 3) := by decide +kernel
theorem dX4_get_12 : decode cX4_get 12 = .ok (.dup, 1) := by decide +kernel
theorem dX4_get_13 : decode cX4_get 13 = .ok (.invokespecial 43, 3) := by decide +kernel
theorem dX4_get_16 : decode cX4_get 16 = .ok (.athrow, 1) := by decide +kernel
theorem dX4_get_17 : decode cX4_get 17 = .ok (.iload_n 2, 1) := by decide +kernel
theorem dX4_get_18 : decode cX4_get 18 = .ok (.ifCond .eq 15, 3) := by decide +kernel
theorem dX4_get_21 : decode cX4_get 21 = .ok (.aload_n 0, 1) := by decide +kernel
theorem dX4_get_22 : decode cX4_get 22 = .ok (.getfield 26, 3) := by decide +kernel
theorem dX4_get_25 : decode cX4_get 25 = .ok (.getfield 86, 3) := by decide +kernel
theorem dX4_get_28 : decode cX4_get 28 = .ok (.iload_n 1, 1) := by decide +kernel
theorem dX4_get_29 : decode cX4_get 29 = .ok (.iaload, 1) := by decide +kernel
theorem dX4_get_30 : decode cX4_get 30 = .ok (.goto 12, 3) := by decide +kernel
theorem dX4_get_33 : decode cX4_get 33 = .ok (.aload_n 0, 1) := by decide +kernel
theorem dX4_get_34 : decode cX4_get 34 = .ok (.getfield 26, 3) := by decide +kernel
theorem dX4_get_37 : decode cX4_get 37 = .ok (.getfield 83, 3) := by decide +kernel
theorem dX4_get_40 : decode cX4_get 40 = .ok (.iload_n 1, 1) := by decide +kernel
theorem dX4_get_41 : decode cX4_get 41 = .ok (.iaload, 1) := by decide +kernel
theorem dX4_get_42 : decode cX4_get 42 = .ok (.ireturn, 1) := by decide +kernel
theorem dX4_wave_0 : decode cX4_wave 0 = .ok (.aload_n 0, 1) := by decide +kernel
theorem dX4_wave_1 : decode cX4_wave 1 = .ok (.getfield 33, 3) := by decide +kernel
theorem dX4_wave_4 : decode cX4_wave 4 = .ok (.iload_n 1, 1) := by decide +kernel
theorem dX4_wave_5 : decode cX4_wave 5 = .ok (.i2l, 1) := by decide +kernel
theorem dX4_wave_6 : decode cX4_wave 6 = .ok (.invokevirtual 97, 3) := by decide +kernel
theorem dX4_wave_9 : decode cX4_wave 9 = .ok (.iload_n 2, 1) := by decide +kernel
theorem dX4_wave_10 : decode cX4_wave 10 = .ok (.ifCond .eq 13, 3) := by decide +kernel
theorem dX4_wave_13 : decode cX4_wave 13 = .ok (.aload_n 0, 1) := by decide +kernel
theorem dX4_wave_14 : decode cX4_wave 14 = .ok (.getfield 33, 3) := by decide +kernel
theorem dX4_wave_17 : decode cX4_wave 17 = .ok (.getfield 101, 3) := by decide +kernel
theorem dX4_wave_20 : decode cX4_wave 20 = .ok (.goto 10, 3) := by decide +kernel
theorem dX4_wave_23 : decode cX4_wave 23 = .ok (.aload_n 0, 1) := by decide +kernel
theorem dX4_wave_24 : decode cX4_wave 24 = .ok (.getfield 33, 3) := by decide +kernel
theorem dX4_wave_27 : decode cX4_wave 27 = .ok (.getfield 105, 3) := by decide +kernel
theorem dX4_wave_30 : decode cX4_wave 30 = .ok (.l2i, 1) := by decide +kernel
theorem dX4_wave_31 : decode cX4_wave 31 = .ok (.ireturn, 1) := by decide +kernel
theorem dX4_angle_0 : decode cX4_angle 0 = .ok (.iload_n 1, 1) := by decide +kernel
theorem dX4_angle_1 : decode cX4_angle 1 = .ok (.iload_n 2, 1) := by decide +kernel
theorem dX4_angle_2 : decode cX4_angle 2 = .ok (.invokestatic 108, 3) := by decide +kernel
theorem dX4_angle_5 : decode cX4_angle 5 = .ok (.ifCond .ne 11, 3) := by decide +kernel
theorem dX4_angle_8 : decode cX4_angle 8 = .ok (.new 41, 3) := by decide +kernel
theorem dX4_angle_11 : decode cX4_angle 11 = .ok (.dup, 1) := by decide +kernel
theorem dX4_angle_12 : decode cX4_angle 12 = .ok (.invokespecial 43, 3) := by decide +kernel
theorem dX4_angle_15 : decode cX4_angle 15 = .ok (.athrow, 1) := by decide +kernel
theorem dX4_angle_16 : decode cX4_angle 16 = .ok (.iload_n 1, 1) := by decide +kernel
theorem dX4_angle_17 : decode cX4_angle 17 = .ok (.ifCond .ne 9, 3) := by decide +kernel
theorem dX4_angle_20 : decode cX4_angle 20 = .ok (.iload_n 2, 1) := by decide +kernel
theorem dX4_angle_21 : decode cX4_angle 21 = .ok (.ifCond .ne 5, 3) := by decide +kernel
theorem dX4_angle_24 : decode cX4_angle 24 = .ok (.iconst 0, 1) := by decide +kernel
theorem dX4_angle_25 : decode cX4_angle 25 = .ok (.ireturn, 1) := by decide +kernel
theorem dX4_angle_26 : decode cX4_angle 26 = .ok (.aload_n 0, 1) := by decide +kernel
theorem dX4_angle_27 : decode cX4_angle 27 = .ok (.getfield 33, 3) := by decide +kernel
theorem dX4_angle_30 : decode cX4_angle 30 = .ok (.iload_n 1, 1) := by decide +kernel
theorem dX4_angle_31 : decode cX4_angle 31 = .ok (.i2l, 1) := by decide +kernel
theorem dX4_angle_32 : decode cX4_angle 32 = .ok (.iload_n 2, 1) := by decide +kernel
theorem dX4_angle_33 : decode cX4_angle 33 = .ok (.i2l, 1) := by decide +kernel
theorem dX4_angle_34 : decode cX4_angle 34 = .ok (.invokevirtual 111, 3) := by decide +kernel
theorem dX4_angle_37 : decode cX4_angle 37 = .ok (.aload_n 0, 1) := by decide +kernel
theorem dX4_angle_38 : decode cX4_angle 38 = .ok (.getfield 33, 3) := by decide +kernel
theorem dX4_angle_41 : decode cX4_angle 41 = .ok (.getfield 115, 3) := by decide +kernel
theorem dX4_angle_44 : decode cX4_angle 44 = .ok (.l2i, 1) := by decide +kernel
theorem dX4_angle_45 : decode cX4_angle 45 = .ok (.ireturn, 1) := by decide +kernel
theorem dX4_length_0 : decode cX4_length 0 = .ok (.iload_n 1, 1) := by decide +kernel
theorem dX4_length_1 : decode cX4_length 1 = .ok (.iload_n 2, 1) := by decide +kernel
theorem dX4_length_2 : decode cX4_length 2 = .ok (.invokestatic 108, 3) := by decide +kernel
theorem dX4_length_5 : decode cX4_length 5 = .ok (.ifCond .ne 11, 3) := by decide +kernel
theorem dX4_length_8 : decode cX4_length 8 = .ok (.new 41, 3) := by decide +kernel
theorem dX4_length_11 : decode cX4_length 11 = .ok (.dup, 1) := by decide +kernel
theorem dX4_length_12 : decode cX4_length 12 = .ok (.invokespecial 43, 3) := by decide +kernel
theorem dX4_length_15 : decode cX4_length 15 = .ok (.athrow, 1) := by decide +kernel
theorem dX4_length_16 : decode cX4_length 16 = .ok (.aload_n 0, 1) := by decide +kernel
theorem dX4_length_17 : decode cX4_length 17 = .ok (.getfield 33, 3) := by decide +kernel
theorem dX4_length_20 : decode cX4_length 20 = .ok (.iload_n 1, 1) := by decide +kernel
theorem dX4_length_21 : decode cX4_length 21 = .ok (.i2l, 1) := by decide +kernel
theorem dX4_length_22 : decode cX4_length 22 = .ok (.iload_n 2, 1) := by decide +kernel
theorem dX4_length_23 : decode cX4_length 23 = .ok (.i2l, 1) := by decide +kernel
theorem dX4_length_24 : decode cX4_length 24 = .ok (.invokevirtual 111, 3) := by decide +kernel
theorem dX4_length_27 : decode cX4_length 27 = .ok (.aload_n 0, 1) := by decide +kernel
theorem dX4_length_28 : decode cX4_length 28 = .ok (.getfield 33, 3) := by decide +kernel
theorem dX4_length_31 : decode cX4_length 31 = .ok (.getfield 101, 3) := by decide +kernel
theorem dX4_length_34 : decode cX4_length 34 = .ok (.ldc2_w 118, 3) := by decide +kernel
theorem dX4_length_37 : decode cX4_length 37 = .ok (.lmul, 1) := by decide +kernel
theorem dX4_length_38 : decode cX4_length 38 = .ok (.bipush 30, 2) := by decide +kernel
theorem dX4_length_40 : decode cX4_length 40 = .ok (.invokestatic 59, 3) := by decide +kernel
theorem dX4_length_43 : decode cX4_length 43 = .ok (.l2i, 1) := by decide +kernel
theorem dX4_length_44 : decode cX4_length 44 = .ok (.ireturn, 1) := by decide +kernel
theorem dX4_isWay_0 : decode cX4_isWay 0 = .ok (.iload_n 0, 1) := by decide +kernel
theorem dX4_isWay_1 : decode cX4_isWay 1 = .ok (.iconst 3, 1) := by decide +kernel
theorem dX4_isWay_2 : decode cX4_isWay 2 = .ok (.if_icmp .ne 20, 3) := by decide +kernel
theorem dX4_isWay_5 : decode cX4_isWay 5 = .ok (.iload_n 1, 1) := by decide +kernel
theorem dX4_isWay_6 : decode cX4_isWay 6 = .ok (.iload_n 2, 1) := by decide +kernel
theorem dX4_isWay_7 : decode cX4_isWay 7 = .ok (.ineg, 1) := by decide +kernel
theorem dX4_isWay_8 : decode cX4_isWay 8 = .ok (.if_icmp .lt 12, 3) := by decide +kernel
theorem dX4_isWay_11 : decode cX4_isWay 11 = .ok (.iload_n 1, 1) := by decide +kernel
theorem dX4_isWay_12 : decode cX4_isWay 12 = .ok (.iload_n 2, 1) := by decide +kernel
theorem dX4_isWay_13 : decode cX4_isWay 13 = .ok (.if_icmp .gt 7, 3) := by decide +kernel
theorem dX4_isWay_16 : decode cX4_isWay 16 = .ok (.iconst 1, 1) := by decide +kernel
theorem dX4_isWay_17 : decode cX4_isWay 17 = .ok (.goto 4, 3) := by decide +kernel
theorem dX4_isWay_20 : decode cX4_isWay 20 = .ok (.iconst 0, 1) := by decide +kernel
theorem dX4_isWay_21 : decode cX4_isWay 21 = .ok (.ireturn, 1) := by decide +kernel
theorem dX4_isWay_22 : decode cX4_isWay 22 = .ok (.iload_n 0, 1) := by decide +kernel
theorem dX4_isWay_23 : decode cX4_isWay 23 = .ok (.ifCond .lt 12, 3) := by decide +kernel
theorem dX4_isWay_26 : decode cX4_isWay 26 = .ok (.iload_n 0, 1) := by decide +kernel
theorem dX4_isWay_27 : decode cX4_isWay 27 = .ok (.iconst 5, 1) := by decide +kernel
theorem dX4_isWay_28 : decode cX4_isWay 28 = .ok (.if_icmp .gt 7, 3) := by decide +kernel
theorem dX4_isWay_31 : decode cX4_isWay 31 = .ok (.iconst 1, 1) := by decide +kernel
theorem dX4_isWay_32 : decode cX4_isWay 32 = .ok (.goto 4, 3) := by decide +kernel
theorem dX4_isWay_35 : decode cX4_isWay 35 = .ok (.iconst 0, 1) := by decide +kernel
theorem dX4_isWay_36 : decode cX4_isWay 36 = .ok (.ireturn, 1) := by decide +kernel
theorem dX4_isShort_0 : decode cX4_isShort 0 = .ok (.iload_n 0, 1) := by decide +kernel
theorem dX4_isShort_1 : decode cX4_isShort 1 = .ok (.sipush (-32768), 3) := by decide +kernel
theorem dX4_isShort_4 : decode cX4_isShort 4 = .ok (.if_icmp .lt 14, 3) := by decide +kernel
theorem dX4_isShort_7 : decode cX4_isShort 7 = .ok (.iload_n 0, 1) := by decide +kernel
theorem dX4_isShort_8 : decode cX4_isShort 8 = .ok (.sipush 32767, 3) := by decide +kernel
theorem dX4_isShort_11 : decode cX4_isShort 11 = .ok (.if_icmp .gt 7, 3) := by decide +kernel
theorem dX4_isShort_14 : decode cX4_isShort 14 = .ok (.iconst 1, 1) := by decide +kernel
theorem dX4_isShort_15 : decode cX4_isShort 15 = .ok (.goto 4, 3) := by decide +kernel
theorem dX4_isShort_18 : decode cX4_isShort 18 = .ok (.iconst 0, 1) := by decide +kernel
theorem dX4_isShort_19 : decode cX4_isShort 19 = .ok (.ireturn, 1) := by decide +kernel
theorem dX4_isWithin_0 : decode cX4_isWithin 0 = .ok (.iload_n 0, 1) := by decide +kernel
theorem dX4_isWithin_1 : decode cX4_isWithin 1 = .ok (.ifCond .lt 12, 3) := by decide +kernel
theorem dX4_isWithin_4 : decode cX4_isWithin 4 = .ok (.iload_n 0, 1) := by decide +kernel
theorem dX4_isWithin_5 : decode cX4_isWithin 5 = .ok (.iload_n 1, 1) := by decide +kernel
theorem dX4_isWithin_6 : decode cX4_isWithin 6 = .ok (.if_icmp .ge 7, 3) := by decide +kernel
theorem dX4_isWithin_9 : decode cX4_isWithin 9 = .ok (.iconst 1, 1) := by decide +kernel
theorem dX4_isWithin_10 : decode cX4_isWithin 10 = .ok (.goto 4, 3) := by decide +kernel
theorem dX4_isWithin_13 : decode cX4_isWithin 13 = .ok (.iconst 0, 1) := by decide +kernel
theorem dX4_isWithin_14 : decode cX4_isWithin 14 = .ok (.ireturn, 1) := by decide +kernel
theorem dX4_isPoint_0 : decode cX4_isPoint 0 = .ok (.iload_n 0, 1) := by decide +kernel
theorem dX4_isPoint_1 : decode cX4_isPoint 1 = .ok (.invokestatic 120, 3) := by decide +kernel
theorem dX4_isPoint_4 : decode cX4_isPoint 4 = .ok (.ifCond .eq 14, 3) := by decide +kernel
theorem dX4_isPoint_7 : decode cX4_isPoint 7 = .ok (.iload_n 1, 1) := by decide +kernel
theorem dX4_isPoint_8 : decode cX4_isPoint 8 = .ok (.invokestatic 120, 3) := by decide +kernel
theorem dX4_isPoint_11 : decode cX4_isPoint 11 = .ok (.ifCond .eq 7, 3) := by decide +kernel
theorem dX4_isPoint_14 : decode cX4_isPoint 14 = .ok (.iconst 1, 1) := by decide +kernel
theorem dX4_isPoint_15 : decode cX4_isPoint 15 = .ok (.goto 4, 3) := by decide +kernel
theorem dX4_isPoint_18 : decode cX4_isPoint 18 = .ok (.iconst 0, 1) := by decide +kernel
theorem dX4_isPoint_19 : decode cX4_isPoint 19 = .ok (.ireturn, 1) := by decide +kernel
theorem dX4_isCoordinate_0 : decode cX4_isCoordinate 0 = .ok (.iload_n 0, 1) := by decide +kernel
theorem dX4_isCoordinate_1 : decode cX4_isCoordinate 1 = .ok (.ldc 123, 2) := by decide +kernel
theorem dX4_isCoordinate_3 : decode cX4_isCoordinate 3 = .ok (.if_icmp .lt 13, 3) := by decide +kernel
theorem dX4_isCoordinate_6 : decode cX4_isCoordinate 6 = .ok (.iload_n 0, 1) := by decide +kernel
theorem dX4_isCoordinate_7 : decode cX4_isCoordinate 7 = .ok (.ldc 124, 2) := by decide +kernel
theorem dX4_isCoordinate_9 : decode cX4_isCoordinate 9 = .ok (.if_icmp .gt 7, 3) := by decide +kernel
theorem dX4_isCoordinate_12 : decode cX4_isCoordinate 12 = .ok (.iconst 1, 1) := by decide +kernel
theorem dX4_isCoordinate_13 : decode cX4_isCoordinate 13 = .ok (.goto 4, 3) := by decide +kernel
theorem dX4_isCoordinate_16 : decode cX4_isCoordinate 16 = .ok (.iconst 0, 1) := by decide +kernel
theorem dX4_isCoordinate_17 : decode cX4_isCoordinate 17 = .ok (.ireturn, 1) := by decide +kernel
theorem dX4_reckoned_0 : decode cX4_reckoned 0 = .ok (.iload_n 0, 1) := by decide +kernel
theorem dX4_reckoned_1 : decode cX4_reckoned 1 = .ok (.tableswitch 62 0 4 #[35, 39, 43, 52, 59], 35) := by decide +kernel
theorem dX4_reckoned_36 : decode cX4_reckoned 36 = .ok (.lload_n 1, 1) := by decide +kernel
theorem dX4_reckoned_37 : decode cX4_reckoned 37 = .ok (.lload_n 3, 1) := by decide +kernel
theorem dX4_reckoned_38 : decode cX4_reckoned 38 = .ok (.ladd, 1) := by decide +kernel
theorem dX4_reckoned_39 : decode cX4_reckoned 39 = .ok (.lreturn, 1) := by decide +kernel
theorem dX4_reckoned_40 : decode cX4_reckoned 40 = .ok (.lload_n 1, 1) := by decide +kernel
theorem dX4_reckoned_41 : decode cX4_reckoned 41 = .ok (.lload_n 3, 1) := by decide +kernel
theorem dX4_reckoned_42 : decode cX4_reckoned 42 = .ok (.lsub, 1) := by decide +kernel
theorem dX4_reckoned_43 : decode cX4_reckoned 43 = .ok (.lreturn, 1) := by decide +kernel
theorem dX4_reckoned_44 : decode cX4_reckoned 44 = .ok (.lload_n 1, 1) := by decide +kernel
theorem dX4_reckoned_45 : decode cX4_reckoned 45 = .ok (.lload_n 3, 1) := by decide +kernel
theorem dX4_reckoned_46 : decode cX4_reckoned 46 = .ok (.lmul, 1) := by decide +kernel
theorem dX4_reckoned_47 : decode cX4_reckoned 47 = .ok (.iload 5, 2) := by decide +kernel
theorem dX4_reckoned_49 : decode cX4_reckoned 49 = .ok (.invokestatic 59, 3) := by decide +kernel
theorem dX4_reckoned_52 : decode cX4_reckoned 52 = .ok (.lreturn, 1) := by decide +kernel
theorem dX4_reckoned_53 : decode cX4_reckoned 53 = .ok (.lload_n 1, 1) := by decide +kernel
theorem dX4_reckoned_54 : decode cX4_reckoned 54 = .ok (.lload_n 3, 1) := by decide +kernel
theorem dX4_reckoned_55 : decode cX4_reckoned 55 = .ok (.l2i, 1) := by decide +kernel
theorem dX4_reckoned_56 : decode cX4_reckoned 56 = .ok (.invokestatic 125, 3) := by decide +kernel
theorem dX4_reckoned_59 : decode cX4_reckoned 59 = .ok (.lreturn, 1) := by decide +kernel
theorem dX4_reckoned_60 : decode cX4_reckoned 60 = .ok (.lload_n 1, 1) := by decide +kernel
theorem dX4_reckoned_61 : decode cX4_reckoned 61 = .ok (.lneg, 1) := by decide +kernel
theorem dX4_reckoned_62 : decode cX4_reckoned 62 = .ok (.lreturn, 1) := by decide +kernel
theorem dX4_reckoned_63 : decode cX4_reckoned 63 = .ok (.lload_n 1, 1) := by decide +kernel
theorem dX4_reckoned_64 : decode cX4_reckoned 64 = .ok (.invokestatic 128, 3) := by decide +kernel
theorem dX4_reckoned_67 : decode cX4_reckoned 67 = .ok (.lreturn, 1) := by decide +kernel
theorem dX4_moved_0 : decode cX4_moved 0 = .ok (.iload_n 2, 1) := by decide +kernel
theorem dX4_moved_1 : decode cX4_moved 1 = .ok (.ifCond .lt 9, 3) := by decide +kernel
theorem dX4_moved_4 : decode cX4_moved 4 = .ok (.lload_n 0, 1) := by decide +kernel
theorem dX4_moved_5 : decode cX4_moved 5 = .ok (.iload_n 2, 1) := by decide +kernel
theorem dX4_moved_6 : decode cX4_moved 6 = .ok (.lshl, 1) := by decide +kernel
theorem dX4_moved_7 : decode cX4_moved 7 = .ok (.goto 9, 3) := by decide +kernel
theorem dX4_moved_10 : decode cX4_moved 10 = .ok (.lload_n 0, 1) := by decide +kernel
theorem dX4_moved_11 : decode cX4_moved 11 = .ok (.iload_n 2, 1) := by decide +kernel
theorem dX4_moved_12 : decode cX4_moved 12 = .ok (.ineg, 1) := by decide +kernel
theorem dX4_moved_13 : decode cX4_moved 13 = .ok (.invokestatic 59, 3) := by decide +kernel
theorem dX4_moved_16 : decode cX4_moved 16 = .ok (.lreturn, 1) := by decide +kernel
theorem dX4_sizeOf_0 : decode cX4_sizeOf 0 = .ok (.lload_n 0, 1) := by decide +kernel
theorem dX4_sizeOf_1 : decode cX4_sizeOf 1 = .ok (.lconst 0, 1) := by decide +kernel
theorem dX4_sizeOf_2 : decode cX4_sizeOf 2 = .ok (.lcmp, 1) := by decide +kernel
theorem dX4_sizeOf_3 : decode cX4_sizeOf 3 = .ok (.ifCond .ge 8, 3) := by decide +kernel
theorem dX4_sizeOf_6 : decode cX4_sizeOf 6 = .ok (.lload_n 0, 1) := by decide +kernel
theorem dX4_sizeOf_7 : decode cX4_sizeOf 7 = .ok (.lneg, 1) := by decide +kernel
theorem dX4_sizeOf_8 : decode cX4_sizeOf 8 = .ok (.goto 4, 3) := by decide +kernel
theorem dX4_sizeOf_11 : decode cX4_sizeOf 11 = .ok (.lload_n 0, 1) := by decide +kernel
theorem dX4_sizeOf_12 : decode cX4_sizeOf 12 = .ok (.lreturn, 1) := by decide +kernel
theorem dX4_rounded_0 : decode cX4_rounded 0 = .ok (.lload_n 0, 1) := by decide +kernel
theorem dX4_rounded_1 : decode cX4_rounded 1 = .ok (.lconst 1, 1) := by decide +kernel
theorem dX4_rounded_2 : decode cX4_rounded 2 = .ok (.iload_n 2, 1) := by decide +kernel
theorem dX4_rounded_3 : decode cX4_rounded 3 = .ok (.iconst 1, 1) := by decide +kernel
theorem dX4_rounded_4 : decode cX4_rounded 4 = .ok (.isub, 1) := by decide +kernel
theorem dX4_rounded_5 : decode cX4_rounded 5 = .ok (.lshl, 1) := by decide +kernel
theorem dX4_rounded_6 : decode cX4_rounded 6 = .ok (.ladd, 1) := by decide +kernel
theorem dX4_rounded_7 : decode cX4_rounded 7 = .ok (.iload_n 2, 1) := by decide +kernel
theorem dX4_rounded_8 : decode cX4_rounded 8 = .ok (.lshr, 1) := by decide +kernel
theorem dX4_rounded_9 : decode cX4_rounded 9 = .ok (.lreturn, 1) := by decide +kernel
theorem dX4_satLong_0 : decode cX4_satLong 0 = .ok (.ldc2_w 132, 3) := by decide +kernel
theorem dX4_satLong_3 : decode cX4_satLong 3 = .ok (.ldc2_w 134, 3) := by decide +kernel
theorem dX4_satLong_6 : decode cX4_satLong 6 = .ok (.lload_n 0, 1) := by decide +kernel
theorem dX4_satLong_7 : decode cX4_satLong 7 = .ok (.invokestatic 136, 3) := by decide +kernel
theorem dX4_satLong_10 : decode cX4_satLong 10 = .ok (.invokestatic 142, 3) := by decide +kernel
theorem dX4_satLong_13 : decode cX4_satLong 13 = .ok (.l2i, 1) := by decide +kernel
theorem dX4_satLong_14 : decode cX4_satLong 14 = .ok (.ireturn, 1) := by decide +kernel
theorem dX4_satShort_0 : decode cX4_satShort 0 = .ok (.ldc2_w 145, 3) := by decide +kernel
theorem dX4_satShort_3 : decode cX4_satShort 3 = .ok (.ldc2_w 147, 3) := by decide +kernel
theorem dX4_satShort_6 : decode cX4_satShort 6 = .ok (.lload_n 0, 1) := by decide +kernel
theorem dX4_satShort_7 : decode cX4_satShort 7 = .ok (.invokestatic 136, 3) := by decide +kernel
theorem dX4_satShort_10 : decode cX4_satShort 10 = .ok (.invokestatic 142, 3) := by decide +kernel
theorem dX4_satShort_13 : decode cX4_satShort 13 = .ok (.l2i, 1) := by decide +kernel
theorem dX4_satShort_14 : decode cX4_satShort 14 = .ok (.ireturn, 1) := by decide +kernel
theorem dL_work_0 : decode cL_work 0 = .ok (.aload 4, 2) := by decide +kernel
theorem dL_work_2 : decode cL_work 2 = .ok (.iconst 0, 1) := by decide +kernel
theorem dL_work_3 : decode cL_work 3 = .ok (.aload_n 0, 1) := by decide +kernel
theorem dL_work_4 : decode cL_work 4 = .ok (.iload_n 1, 1) := by decide +kernel
theorem dL_work_5 : decode cL_work 5 = .ok (.iload_n 2, 1) := by decide +kernel
theorem dL_work_6 : decode cL_work 6 = .ok (.iload_n 3, 1) := by decide +kernel
theorem dL_work_7 : decode cL_work 7 = .ok (.invokevirtual 7, 3) := by decide +kernel
theorem dL_work_10 : decode cL_work 10 = .ok (.i2l, 1) := by decide +kernel
theorem dL_work_11 : decode cL_work 11 = .ok (.lastore, 1) := by decide +kernel
theorem dL_work_12 : decode cL_work 12 = .ok (.goto 7, 3) := by decide +kernel
theorem dL_work_15 : decode cL_work 15 = .ok (.astore 5, 2) := by decide +kernel
theorem dL_work_17 : decode cL_work 17 = .ok (.iconst 1, 1) := by decide +kernel
theorem dL_work_18 : decode cL_work 18 = .ok (.ireturn, 1) := by decide +kernel
theorem dL_work_19 : decode cL_work 19 = .ok (.iconst 0, 1) := by decide +kernel
theorem dL_work_20 : decode cL_work 20 = .ok (.ireturn, 1) := by decide +kernel
theorem dL_small_0 : decode cL_small 0 = .ok (.aload 4, 2) := by decide +kernel
theorem dL_small_2 : decode cL_small 2 = .ok (.iconst 0, 1) := by decide +kernel
theorem dL_small_3 : decode cL_small 3 = .ok (.aload_n 0, 1) := by decide +kernel
theorem dL_small_4 : decode cL_small 4 = .ok (.iload_n 1, 1) := by decide +kernel
theorem dL_small_5 : decode cL_small 5 = .ok (.iload_n 2, 1) := by decide +kernel
theorem dL_small_6 : decode cL_small 6 = .ok (.iload_n 3, 1) := by decide +kernel
theorem dL_small_7 : decode cL_small 7 = .ok (.invokevirtual 15, 3) := by decide +kernel
theorem dL_small_10 : decode cL_small 10 = .ok (.i2l, 1) := by decide +kernel
theorem dL_small_11 : decode cL_small 11 = .ok (.lastore, 1) := by decide +kernel
theorem dL_small_12 : decode cL_small 12 = .ok (.goto 7, 3) := by decide +kernel
theorem dL_small_15 : decode cL_small 15 = .ok (.astore 5, 2) := by decide +kernel
theorem dL_small_17 : decode cL_small 17 = .ok (.iconst 1, 1) := by decide +kernel
theorem dL_small_18 : decode cL_small 18 = .ok (.ireturn, 1) := by decide +kernel
theorem dL_small_19 : decode cL_small 19 = .ok (.iconst 0, 1) := by decide +kernel
theorem dL_small_20 : decode cL_small 20 = .ok (.ireturn, 1) := by decide +kernel
theorem dL_tap_0 : decode cL_tap 0 = .ok (.aload_n 0, 1) := by decide +kernel
theorem dL_tap_1 : decode cL_tap 1 = .ok (.iload_n 1, 1) := by decide +kernel
theorem dL_tap_2 : decode cL_tap 2 = .ok (.iload_n 2, 1) := by decide +kernel
theorem dL_tap_3 : decode cL_tap 3 = .ok (.invokevirtual 18, 3) := by decide +kernel
theorem dL_tap_6 : decode cL_tap 6 = .ok (.goto 6, 3) := by decide +kernel
theorem dL_tap_9 : decode cL_tap 9 = .ok (.astore_n 3, 1) := by decide +kernel
theorem dL_tap_10 : decode cL_tap 10 = .ok (.iconst 1, 1) := by decide +kernel
theorem dL_tap_11 : decode cL_tap 11 = .ok (.ireturn, 1) := by decide +kernel
theorem dL_tap_12 : decode cL_tap 12 = .ok (.iconst 0, 1) := by decide +kernel
theorem dL_tap_13 : decode cL_tap 13 = .ok (.ireturn, 1) := by decide +kernel
theorem dL_filter_0 : decode cL_filter 0 = .ok (.aload_n 2, 1) := by decide +kernel
theorem dL_filter_1 : decode cL_filter 1 = .ok (.iconst 0, 1) := by decide +kernel
theorem dL_filter_2 : decode cL_filter 2 = .ok (.aload_n 0, 1) := by decide +kernel
theorem dL_filter_3 : decode cL_filter 3 = .ok (.iload_n 1, 1) := by decide +kernel
theorem dL_filter_4 : decode cL_filter 4 = .ok (.invokevirtual 22, 3) := by decide +kernel
theorem dL_filter_7 : decode cL_filter 7 = .ok (.i2l, 1) := by decide +kernel
theorem dL_filter_8 : decode cL_filter 8 = .ok (.lastore, 1) := by decide +kernel
theorem dL_filter_9 : decode cL_filter 9 = .ok (.goto 6, 3) := by decide +kernel
theorem dL_filter_12 : decode cL_filter 12 = .ok (.astore_n 3, 1) := by decide +kernel
theorem dL_filter_13 : decode cL_filter 13 = .ok (.iconst 1, 1) := by decide +kernel
theorem dL_filter_14 : decode cL_filter 14 = .ok (.ireturn, 1) := by decide +kernel
theorem dL_filter_15 : decode cL_filter 15 = .ok (.iconst 0, 1) := by decide +kernel
theorem dL_filter_16 : decode cL_filter 16 = .ok (.ireturn, 1) := by decide +kernel
theorem dL_stage_0 : decode cL_stage 0 = .ok (.aload_n 0, 1) := by decide +kernel
theorem dL_stage_1 : decode cL_stage 1 = .ok (.iload_n 1, 1) := by decide +kernel
theorem dL_stage_2 : decode cL_stage 2 = .ok (.iload_n 2, 1) := by decide +kernel
theorem dL_stage_3 : decode cL_stage 3 = .ok (.iload_n 3, 1) := by decide +kernel
theorem dL_stage_4 : decode cL_stage 4 = .ok (.invokevirtual 26, 3) := by decide +kernel
theorem dL_stage_7 : decode cL_stage 7 = .ok (.goto 7, 3) := by decide +kernel
theorem dL_stage_10 : decode cL_stage 10 = .ok (.astore 4, 2) := by decide +kernel
theorem dL_stage_12 : decode cL_stage 12 = .ok (.iconst 1, 1) := by decide +kernel
theorem dL_stage_13 : decode cL_stage 13 = .ok (.ireturn, 1) := by decide +kernel
theorem dL_stage_14 : decode cL_stage 14 = .ok (.iconst 0, 1) := by decide +kernel
theorem dL_stage_15 : decode cL_stage 15 = .ok (.ireturn, 1) := by decide +kernel
theorem dL_chain_0 : decode cL_chain 0 = .ok (.aload_n 2, 1) := by decide +kernel
theorem dL_chain_1 : decode cL_chain 1 = .ok (.iconst 0, 1) := by decide +kernel
theorem dL_chain_2 : decode cL_chain 2 = .ok (.aload_n 0, 1) := by decide +kernel
theorem dL_chain_3 : decode cL_chain 3 = .ok (.iload_n 1, 1) := by decide +kernel
theorem dL_chain_4 : decode cL_chain 4 = .ok (.invokevirtual 30, 3) := by decide +kernel
theorem dL_chain_7 : decode cL_chain 7 = .ok (.i2l, 1) := by decide +kernel
theorem dL_chain_8 : decode cL_chain 8 = .ok (.lastore, 1) := by decide +kernel
theorem dL_chain_9 : decode cL_chain 9 = .ok (.goto 6, 3) := by decide +kernel
theorem dL_chain_12 : decode cL_chain 12 = .ok (.astore_n 3, 1) := by decide +kernel
theorem dL_chain_13 : decode cL_chain 13 = .ok (.iconst 1, 1) := by decide +kernel
theorem dL_chain_14 : decode cL_chain 14 = .ok (.ireturn, 1) := by decide +kernel
theorem dL_chain_15 : decode cL_chain 15 = .ok (.iconst 0, 1) := by decide +kernel
theorem dL_chain_16 : decode cL_chain 16 = .ok (.ireturn, 1) := by decide +kernel
theorem dL_put_0 : decode cL_put 0 = .ok (.aload_n 0, 1) := by decide +kernel
theorem dL_put_1 : decode cL_put 1 = .ok (.iload_n 1, 1) := by decide +kernel
theorem dL_put_2 : decode cL_put 2 = .ok (.iload_n 2, 1) := by decide +kernel
theorem dL_put_3 : decode cL_put 3 = .ok (.iload_n 3, 1) := by decide +kernel
theorem dL_put_4 : decode cL_put 4 = .ok (.invokevirtual 33, 3) := by decide +kernel
theorem dL_put_7 : decode cL_put 7 = .ok (.goto 7, 3) := by decide +kernel
theorem dL_put_10 : decode cL_put 10 = .ok (.astore 4, 2) := by decide +kernel
theorem dL_put_12 : decode cL_put 12 = .ok (.iconst 1, 1) := by decide +kernel
theorem dL_put_13 : decode cL_put 13 = .ok (.ireturn, 1) := by decide +kernel
theorem dL_put_14 : decode cL_put 14 = .ok (.iconst 0, 1) := by decide +kernel
theorem dL_put_15 : decode cL_put 15 = .ok (.ireturn, 1) := by decide +kernel
theorem dL_transform_0 : decode cL_transform 0 = .ok (.aload_n 3, 1) := by decide +kernel
theorem dL_transform_1 : decode cL_transform 1 = .ok (.iconst 0, 1) := by decide +kernel
theorem dL_transform_2 : decode cL_transform 2 = .ok (.aload_n 0, 1) := by decide +kernel
theorem dL_transform_3 : decode cL_transform 3 = .ok (.iload_n 1, 1) := by decide +kernel
theorem dL_transform_4 : decode cL_transform 4 = .ok (.iload_n 2, 1) := by decide +kernel
theorem dL_transform_5 : decode cL_transform 5 = .ok (.invokevirtual 36, 3) := by decide +kernel
theorem dL_transform_8 : decode cL_transform 8 = .ok (.i2l, 1) := by decide +kernel
theorem dL_transform_9 : decode cL_transform 9 = .ok (.lastore, 1) := by decide +kernel
theorem dL_transform_10 : decode cL_transform 10 = .ok (.goto 7, 3) := by decide +kernel
theorem dL_transform_13 : decode cL_transform 13 = .ok (.astore 4, 2) := by decide +kernel
theorem dL_transform_15 : decode cL_transform 15 = .ok (.iconst 1, 1) := by decide +kernel
theorem dL_transform_16 : decode cL_transform 16 = .ok (.ireturn, 1) := by decide +kernel
theorem dL_transform_17 : decode cL_transform 17 = .ok (.iconst 0, 1) := by decide +kernel
theorem dL_transform_18 : decode cL_transform 18 = .ok (.ireturn, 1) := by decide +kernel
theorem dL_get_0 : decode cL_get 0 = .ok (.aload_n 3, 1) := by decide +kernel
theorem dL_get_1 : decode cL_get 1 = .ok (.iconst 0, 1) := by decide +kernel
theorem dL_get_2 : decode cL_get 2 = .ok (.aload_n 0, 1) := by decide +kernel
theorem dL_get_3 : decode cL_get 3 = .ok (.iload_n 1, 1) := by decide +kernel
theorem dL_get_4 : decode cL_get 4 = .ok (.iload_n 2, 1) := by decide +kernel
theorem dL_get_5 : decode cL_get 5 = .ok (.invokevirtual 40, 3) := by decide +kernel
theorem dL_get_8 : decode cL_get 8 = .ok (.i2l, 1) := by decide +kernel
theorem dL_get_9 : decode cL_get 9 = .ok (.lastore, 1) := by decide +kernel
theorem dL_get_10 : decode cL_get 10 = .ok (.goto 7, 3) := by decide +kernel
theorem dL_get_13 : decode cL_get 13 = .ok (.astore 4, 2) := by decide +kernel
theorem dL_get_15 : decode cL_get 15 = .ok (.iconst 1, 1) := by decide +kernel
theorem dL_get_16 : decode cL_get 16 = .ok (.ireturn, 1) := by decide +kernel
theorem dL_get_17 : decode cL_get 17 = .ok (.iconst 0, 1) := by decide +kernel
theorem dL_get_18 : decode cL_get 18 = .ok (.ireturn, 1) := by decide +kernel
theorem dL_angle_0 : decode cL_angle 0 = .ok (.aload_n 3, 1) := by decide +kernel
theorem dL_angle_1 : decode cL_angle 1 = .ok (.iconst 0, 1) := by decide +kernel
theorem dL_angle_2 : decode cL_angle 2 = .ok (.aload_n 0, 1) := by decide +kernel
theorem dL_angle_3 : decode cL_angle 3 = .ok (.iload_n 1, 1) := by decide +kernel
theorem dL_angle_4 : decode cL_angle 4 = .ok (.iload_n 2, 1) := by decide +kernel
theorem dL_angle_5 : decode cL_angle 5 = .ok (.invokevirtual 43, 3) := by decide +kernel
theorem dL_angle_8 : decode cL_angle 8 = .ok (.i2l, 1) := by decide +kernel
theorem dL_angle_9 : decode cL_angle 9 = .ok (.lastore, 1) := by decide +kernel
theorem dL_angle_10 : decode cL_angle 10 = .ok (.goto 7, 3) := by decide +kernel
theorem dL_angle_13 : decode cL_angle 13 = .ok (.astore 4, 2) := by decide +kernel
theorem dL_angle_15 : decode cL_angle 15 = .ok (.iconst 1, 1) := by decide +kernel
theorem dL_angle_16 : decode cL_angle 16 = .ok (.ireturn, 1) := by decide +kernel
theorem dL_angle_17 : decode cL_angle 17 = .ok (.iconst 0, 1) := by decide +kernel
theorem dL_angle_18 : decode cL_angle 18 = .ok (.ireturn, 1) := by decide +kernel
theorem dL_length_0 : decode cL_length 0 = .ok (.aload_n 3, 1) := by decide +kernel
theorem dL_length_1 : decode cL_length 1 = .ok (.iconst 0, 1) := by decide +kernel
theorem dL_length_2 : decode cL_length 2 = .ok (.aload_n 0, 1) := by decide +kernel
theorem dL_length_3 : decode cL_length 3 = .ok (.iload_n 1, 1) := by decide +kernel
theorem dL_length_4 : decode cL_length 4 = .ok (.iload_n 2, 1) := by decide +kernel
theorem dL_length_5 : decode cL_length 5 = .ok (.invokevirtual 47, 3) := by decide +kernel
theorem dL_length_8 : decode cL_length 8 = .ok (.i2l, 1) := by decide +kernel
theorem dL_length_9 : decode cL_length 9 = .ok (.lastore, 1) := by decide +kernel
theorem dL_length_10 : decode cL_length 10 = .ok (.goto 7, 3) := by decide +kernel
theorem dL_length_13 : decode cL_length 13 = .ok (.astore 4, 2) := by decide +kernel
theorem dL_length_15 : decode cL_length 15 = .ok (.iconst 1, 1) := by decide +kernel
theorem dL_length_16 : decode cL_length 16 = .ok (.ireturn, 1) := by decide +kernel
theorem dL_length_17 : decode cL_length 17 = .ok (.iconst 0, 1) := by decide +kernel
theorem dL_length_18 : decode cL_length 18 = .ok (.ireturn, 1) := by decide +kernel
