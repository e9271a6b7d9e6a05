theorem dX5_init_0 : decode cX5_init 0 = .ok (.aload_n 0, 1) := by decide +kernel
theorem dX5_init_1 : decode cX5_init 1 = .ok (.invokespecial 1, 3) := by decide +kernel
theorem dX5_init_4 : decode cX5_init 4 = .ok (.aload_n 0, 1) := by decide +kernel
theorem dX5_init_5 : decode cX5_init 5 = .ok (.bipush 16, 2) := by decide +kernel
theorem dX5_init_7 : decode cX5_init 7 = .ok (.newarray .int, 2) := by decide +kernel
theorem dX5_init_9 : decode cX5_init 9 = .ok (.putfield 7, 3) := by decide +kernel
theorem dX5_init_12 : decode cX5_init 12 = .ok (.aload_n 0, 1) := by decide +kernel
theorem dX5_init_13 : decode cX5_init 13 = .ok (.bipush 16, 2) := by decide +kernel
theorem dX5_init_15 : decode cX5_init 15 = .ok (.newarray .int, 2) := by decide +kernel
theorem dX5_init_17 : decode cX5_init 17 = .ok (.putfield 13, 3) := by decide +kernel
theorem dX5_init_20 : decode cX5_init 20 = .ok (.aload_n 0, 1) := by decide +kernel
theorem dX5_init_21 : decode cX5_init 21 = .ok (.bipush 20, 2) := by decide +kernel
theorem dX5_init_23 : decode cX5_init 23 = .ok (.newarray .int, 2) := by decide +kernel
theorem dX5_init_25 : decode cX5_init 25 = .ok (.putfield 16, 3) := by decide +kernel
theorem dX5_init_28 : decode cX5_init 28 = .ok (.aload_n 0, 1) := by decide +kernel
theorem dX5_init_29 : decode cX5_init 29 = .ok (.bipush 16, 2) := by decide +kernel
theorem dX5_init_31 : decode cX5_init 31 = .ok (.newarray .int, 2) := by decide +kernel
theorem dX5_init_33 : decode cX5_init 33 = .ok (.putfield 19, 3) := by decide +kernel
theorem dX5_init_36 : decode cX5_init 36 = .ok (.aload_n 0, 1) := by decide +kernel
theorem dX5_init_37 : decode cX5_init 37 = .ok (.bipush 64, 2) := by decide +kernel
theorem dX5_init_39 : decode cX5_init 39 = .ok (.newarray .long, 2) := by decide +kernel
theorem dX5_init_41 : decode cX5_init 41 = .ok (.putfield 22, 3) := by decide +kernel
theorem dX5_init_44 : decode cX5_init 44 = .ok (.aload_n 0, 1) := by decide +kernel
theorem dX5_init_45 : decode cX5_init 45 = .ok (.bipush 64, 2) := by decide +kernel
theorem dX5_init_47 : decode cX5_init 47 = .ok (.newarray .long, 2) := by decide +kernel
theorem dX5_init_49 : decode cX5_init 49 = .ok (.putfield 26, 3) := by decide +kernel
theorem dX5_init_52 : decode cX5_init 52 = .ok (.iconst 0, 1) := by decide +kernel
theorem dX5_init_53 : decode cX5_init 53 = .ok (.istore_n 1, 1) := by decide +kernel
theorem dX5_init_54 : decode cX5_init 54 = .ok (.iload_n 1, 1) := by decide +kernel
theorem dX5_init_55 : decode cX5_init 55 = .ok (.iconst 4, 1) := by decide +kernel
theorem dX5_init_56 : decode cX5_init 56 = .ok (.if_icmp .ge 20, 3) := by decide +kernel
theorem dX5_init_59 : decode cX5_init 59 = .ok (.aload_n 0, 1) := by decide +kernel
theorem dX5_init_60 : decode cX5_init 60 = .ok (.getfield 16, 3) := by decide +kernel
theorem dX5_init_63 : decode cX5_init 63 = .ok (.iconst 5, 1) := by decide +kernel
theorem dX5_init_64 : decode cX5_init 64 = .ok (.iload_n 1, 1) := by decide +kernel
theorem dX5_init_65 : decode cX5_init 65 = .ok (.imul, 1) := by decide +kernel
theorem dX5_init_66 : decode cX5_init 66 = .ok (.sipush 16384, 3) := by decide +kernel
theorem dX5_init_69 : decode cX5_init 69 = .ok (.iastore, 1) := by decide +kernel
theorem dX5_init_70 : decode cX5_init 70 = .ok (.iinc 1 1, 3) := by decide +kernel
theorem dX5_init_73 : decode cX5_init 73 = .ok (.goto (-19), 3) := by decide +kernel
theorem dX5_init_76 : decode cX5_init 76 = .ok (.return_, 1) := by decide +kernel
theorem dX5_thrown_0 : decode cX5_thrown 0 = .ok (.aload_n 0, 1) := by decide +kernel
theorem dX5_thrown_1 : decode cX5_thrown 1 = .ok (.getfield 29, 3) := by decide +kernel
theorem dX5_thrown_4 : decode cX5_thrown 4 = .ok (.ireturn, 1) := by decide +kernel
theorem dX5_refused_0 : decode cX5_refused 0 = .ok (.aload_n 0, 1) := by decide +kernel
theorem dX5_refused_1 : decode cX5_refused 1 = .ok (.iload_n 1, 1) := by decide +kernel
theorem dX5_refused_2 : decode cX5_refused 2 = .ok (.putfield 29, 3) := by decide +kernel
theorem dX5_refused_5 : decode cX5_refused 5 = .ok (.iload_n 1, 1) := by decide +kernel
theorem dX5_refused_6 : decode cX5_refused 6 = .ok (.ifCond .le 7, 3) := by decide +kernel
theorem dX5_refused_9 : decode cX5_refused 9 = .ok (.iconst 1, 1) := by decide +kernel
theorem dX5_refused_10 : decode cX5_refused 10 = .ok (.goto 4, 3) := by decide +kernel
theorem dX5_refused_13 : decode cX5_refused 13 = .ok (.iconst 0, 1) := by decide +kernel
theorem dX5_refused_14 : decode cX5_refused 14 = .ok (.ireturn, 1) := by decide +kernel
theorem dX5_isIn_0 : decode cX5_isIn 0 = .ok (.iload_n 0, 1) := by decide +kernel
theorem dX5_isIn_1 : decode cX5_isIn 1 = .ok (.iload_n 1, 1) := by decide +kernel
theorem dX5_isIn_2 : decode cX5_isIn 2 = .ok (.if_icmp .lt 12, 3) := by decide +kernel
theorem dX5_isIn_5 : decode cX5_isIn 5 = .ok (.iload_n 0, 1) := by decide +kernel
theorem dX5_isIn_6 : decode cX5_isIn 6 = .ok (.iload_n 2, 1) := by decide +kernel
theorem dX5_isIn_7 : decode cX5_isIn 7 = .ok (.if_icmp .gt 7, 3) := by decide +kernel
theorem dX5_isIn_10 : decode cX5_isIn 10 = .ok (.iconst 1, 1) := by decide +kernel
theorem dX5_isIn_11 : decode cX5_isIn 11 = .ok (.goto 4, 3) := by decide +kernel
theorem dX5_isIn_14 : decode cX5_isIn 14 = .ok (.iconst 0, 1) := by decide +kernel
theorem dX5_isIn_15 : decode cX5_isIn 15 = .ok (.ireturn, 1) := by decide +kernel
theorem dX5_isShort_0 : decode cX5_isShort 0 = .ok (.iload_n 0, 1) := by decide +kernel
theorem dX5_isShort_1 : decode cX5_isShort 1 = .ok (.sipush (-32768), 3) := by decide +kernel
theorem dX5_isShort_4 : decode cX5_isShort 4 = .ok (.if_icmp .lt 14, 3) := by decide +kernel
theorem dX5_isShort_7 : decode cX5_isShort 7 = .ok (.iload_n 0, 1) := by decide +kernel
theorem dX5_isShort_8 : decode cX5_isShort 8 = .ok (.sipush 32767, 3) := by decide +kernel
theorem dX5_isShort_11 : decode cX5_isShort 11 = .ok (.if_icmp .gt 7, 3) := by decide +kernel
theorem dX5_isShort_14 : decode cX5_isShort 14 = .ok (.iconst 1, 1) := by decide +kernel
theorem dX5_isShort_15 : decode cX5_isShort 15 = .ok (.goto 4, 3) := by decide +kernel
theorem dX5_isShort_18 : decode cX5_isShort 18 = .ok (.iconst 0, 1) := by decide +kernel
theorem dX5_isShort_19 : decode cX5_isShort 19 = .ok (.ireturn, 1) := by decide +kernel
theorem dX5_rounded_0 : decode cX5_rounded 0 = .ok (.iload_n 2, 1) := by decide +kernel
theorem dX5_rounded_1 : decode cX5_rounded 1 = .ok (.ifCond .ne 7, 3) := by decide +kernel
theorem dX5_rounded_4 : decode cX5_rounded 4 = .ok (.lload_n 0, 1) := by decide +kernel
theorem dX5_rounded_5 : decode cX5_rounded 5 = .ok (.goto 12, 3) := by decide +kernel
theorem dX5_rounded_8 : decode cX5_rounded 8 = .ok (.lload_n 0, 1) := by decide +kernel
theorem dX5_rounded_9 : decode cX5_rounded 9 = .ok (.lconst 1, 1) := by decide +kernel
theorem dX5_rounded_10 : decode cX5_rounded 10 = .ok (.iload_n 2, 1) := by decide +kernel
theorem dX5_rounded_11 : decode cX5_rounded 11 = .ok (.iconst 1, 1) := by decide +kernel
theorem dX5_rounded_12 : decode cX5_rounded 12 = .ok (.isub, 1) := by decide +kernel
theorem dX5_rounded_13 : decode cX5_rounded 13 = .ok (.lshl, 1) := by decide +kernel
theorem dX5_rounded_14 : decode cX5_rounded 14 = .ok (.ladd, 1) := by decide +kernel
theorem dX5_rounded_15 : decode cX5_rounded 15 = .ok (.iload_n 2, 1) := by decide +kernel
theorem dX5_rounded_16 : decode cX5_rounded 16 = .ok (.lshr, 1) := by decide +kernel
theorem dX5_rounded_17 : decode cX5_rounded 17 = .ok (.lreturn, 1) := by decide +kernel
theorem dX5_within_0 : decode cX5_within 0 = .ok (.lload_n 0, 1) := by decide +kernel
theorem dX5_within_1 : decode cX5_within 1 = .ok (.lload_n 2, 1) := by decide +kernel
theorem dX5_within_2 : decode cX5_within 2 = .ok (.lcmp, 1) := by decide +kernel
theorem dX5_within_3 : decode cX5_within 3 = .ok (.ifCond .le 7, 3) := by decide +kernel
theorem dX5_within_6 : decode cX5_within 6 = .ok (.lload_n 2, 1) := by decide +kernel
theorem dX5_within_7 : decode cX5_within 7 = .ok (.goto 20, 3) := by decide +kernel
theorem dX5_within_10 : decode cX5_within 10 = .ok (.lload_n 0, 1) := by decide +kernel
theorem dX5_within_11 : decode cX5_within 11 = .ok (.lload_n 2, 1) := by decide +kernel
theorem dX5_within_12 : decode cX5_within 12 = .ok (.lneg, 1) := by decide +kernel
theorem dX5_within_13 : decode cX5_within 13 = .ok (.lconst 1, 1) := by decide +kernel
theorem dX5_within_14 : decode cX5_within 14 = .ok (.lsub, 1) := by decide +kernel
theorem dX5_within_15 : decode cX5_within 15 = .ok (.lcmp, 1) := by decide +kernel
theorem dX5_within_16 : decode cX5_within 16 = .ok (.ifCond .ge 10, 3) := by decide +kernel
theorem dX5_within_19 : decode cX5_within 19 = .ok (.lload_n 2, 1) := by decide +kernel
theorem dX5_within_20 : decode cX5_within 20 = .ok (.lneg, 1) := by decide +kernel
theorem dX5_within_21 : decode cX5_within 21 = .ok (.lconst 1, 1) := by decide +kernel
theorem dX5_within_22 : decode cX5_within 22 = .ok (.lsub, 1) := by decide +kernel
theorem dX5_within_23 : decode cX5_within 23 = .ok (.goto 4, 3) := by decide +kernel
theorem dX5_within_26 : decode cX5_within 26 = .ok (.lload_n 0, 1) := by decide +kernel
theorem dX5_within_27 : decode cX5_within 27 = .ok (.l2i, 1) := by decide +kernel
theorem dX5_within_28 : decode cX5_within 28 = .ok (.ireturn, 1) := by decide +kernel
theorem dX5_reckoned_0 : decode cX5_reckoned 0 = .ok (.iload_n 0, 1) := by decide +kernel
theorem dX5_reckoned_1 : decode cX5_reckoned 1 = .ok (.tableswitch 100 0 4 #[35, 45, 55, 70, 92], 35) := by decide +kernel
theorem dX5_reckoned_36 : decode cX5_reckoned 36 = .ok (.lload_n 1, 1) := by decide +kernel
theorem dX5_reckoned_37 : decode cX5_reckoned 37 = .ok (.iload_n 3, 1) := by decide +kernel
theorem dX5_reckoned_38 : decode cX5_reckoned 38 = .ok (.i2l, 1) := by decide +kernel
theorem dX5_reckoned_39 : decode cX5_reckoned 39 = .ok (.ladd, 1) := by decide +kernel
theorem dX5_reckoned_40 : decode cX5_reckoned 40 = .ok (.lload 5, 2) := by decide +kernel
theorem dX5_reckoned_42 : decode cX5_reckoned 42 = .ok (.invokestatic 33, 3) := by decide +kernel
theorem dX5_reckoned_45 : decode cX5_reckoned 45 = .ok (.ireturn, 1) := by decide +kernel
theorem dX5_reckoned_46 : decode cX5_reckoned 46 = .ok (.lload_n 1, 1) := by decide +kernel
theorem dX5_reckoned_47 : decode cX5_reckoned 47 = .ok (.iload_n 3, 1) := by decide +kernel
theorem dX5_reckoned_48 : decode cX5_reckoned 48 = .ok (.i2l, 1) := by decide +kernel
theorem dX5_reckoned_49 : decode cX5_reckoned 49 = .ok (.lsub, 1) := by decide +kernel
theorem dX5_reckoned_50 : decode cX5_reckoned 50 = .ok (.lload 5, 2) := by decide +kernel
theorem dX5_reckoned_52 : decode cX5_reckoned 52 = .ok (.invokestatic 33, 3) := by decide +kernel
theorem dX5_reckoned_55 : decode cX5_reckoned 55 = .ok (.ireturn, 1) := by decide +kernel
theorem dX5_reckoned_56 : decode cX5_reckoned 56 = .ok (.lload_n 1, 1) := by decide +kernel
theorem dX5_reckoned_57 : decode cX5_reckoned 57 = .ok (.iload_n 3, 1) := by decide +kernel
theorem dX5_reckoned_58 : decode cX5_reckoned 58 = .ok (.i2l, 1) := by decide +kernel
theorem dX5_reckoned_59 : decode cX5_reckoned 59 = .ok (.lmul, 1) := by decide +kernel
theorem dX5_reckoned_60 : decode cX5_reckoned 60 = .ok (.iload 4, 2) := by decide +kernel
theorem dX5_reckoned_62 : decode cX5_reckoned 62 = .ok (.invokestatic 37, 3) := by decide +kernel
theorem dX5_reckoned_65 : decode cX5_reckoned 65 = .ok (.lload 5, 2) := by decide +kernel
theorem dX5_reckoned_67 : decode cX5_reckoned 67 = .ok (.invokestatic 33, 3) := by decide +kernel
theorem dX5_reckoned_70 : decode cX5_reckoned 70 = .ok (.ireturn, 1) := by decide +kernel
theorem dX5_reckoned_71 : decode cX5_reckoned 71 = .ok (.iload_n 3, 1) := by decide +kernel
theorem dX5_reckoned_72 : decode cX5_reckoned 72 = .ok (.ifCond .lt 9, 3) := by decide +kernel
theorem dX5_reckoned_75 : decode cX5_reckoned 75 = .ok (.lload_n 1, 1) := by decide +kernel
theorem dX5_reckoned_76 : decode cX5_reckoned 76 = .ok (.iload_n 3, 1) := by decide +kernel
theorem dX5_reckoned_77 : decode cX5_reckoned 77 = .ok (.lshl, 1) := by decide +kernel
theorem dX5_reckoned_78 : decode cX5_reckoned 78 = .ok (.goto 9, 3) := by decide +kernel
theorem dX5_reckoned_81 : decode cX5_reckoned 81 = .ok (.lload_n 1, 1) := by decide +kernel
theorem dX5_reckoned_82 : decode cX5_reckoned 82 = .ok (.iload_n 3, 1) := by decide +kernel
theorem dX5_reckoned_83 : decode cX5_reckoned 83 = .ok (.ineg, 1) := by decide +kernel
theorem dX5_reckoned_84 : decode cX5_reckoned 84 = .ok (.invokestatic 37, 3) := by decide +kernel
theorem dX5_reckoned_87 : decode cX5_reckoned 87 = .ok (.lload 5, 2) := by decide +kernel
theorem dX5_reckoned_89 : decode cX5_reckoned 89 = .ok (.invokestatic 33, 3) := by decide +kernel
theorem dX5_reckoned_92 : decode cX5_reckoned 92 = .ok (.ireturn, 1) := by decide +kernel
theorem dX5_reckoned_93 : decode cX5_reckoned 93 = .ok (.lload_n 1, 1) := by decide +kernel
theorem dX5_reckoned_94 : decode cX5_reckoned 94 = .ok (.lneg, 1) := by decide +kernel
theorem dX5_reckoned_95 : decode cX5_reckoned 95 = .ok (.lload 5, 2) := by decide +kernel
theorem dX5_reckoned_97 : decode cX5_reckoned 97 = .ok (.invokestatic 33, 3) := by decide +kernel
theorem dX5_reckoned_100 : decode cX5_reckoned 100 = .ok (.ireturn, 1) := by decide +kernel
theorem dX5_reckoned_101 : decode cX5_reckoned 101 = .ok (.lload_n 1, 1) := by decide +kernel
theorem dX5_reckoned_102 : decode cX5_reckoned 102 = .ok (.lconst 0, 1) := by decide +kernel
theorem dX5_reckoned_103 : decode cX5_reckoned 103 = .ok (.lcmp, 1) := by decide +kernel
theorem dX5_reckoned_104 : decode cX5_reckoned 104 = .ok (.ifCond .ge 8, 3) := by decide +kernel
theorem dX5_reckoned_107 : decode cX5_reckoned 107 = .ok (.lload_n 1, 1) := by decide +kernel
theorem dX5_reckoned_108 : decode cX5_reckoned 108 = .ok (.lneg, 1) := by decide +kernel
theorem dX5_reckoned_109 : decode cX5_reckoned 109 = .ok (.goto 4, 3) := by decide +kernel
theorem dX5_reckoned_112 : decode cX5_reckoned 112 = .ok (.lload_n 1, 1) := by decide +kernel
theorem dX5_reckoned_113 : decode cX5_reckoned 113 = .ok (.lload 5, 2) := by decide +kernel
theorem dX5_reckoned_115 : decode cX5_reckoned 115 = .ok (.invokestatic 33, 3) := by decide +kernel
theorem dX5_reckoned_118 : decode cX5_reckoned 118 = .ok (.ireturn, 1) := by decide +kernel
theorem dX5_work_0 : decode cX5_work 0 = .ok (.aload_n 0, 1) := by decide +kernel
theorem dX5_work_1 : decode cX5_work 1 = .ok (.iload_n 1, 1) := by decide +kernel
theorem dX5_work_2 : decode cX5_work 2 = .ok (.iconst 0, 1) := by decide +kernel
theorem dX5_work_3 : decode cX5_work 3 = .ok (.iconst 5, 1) := by decide +kernel
theorem dX5_work_4 : decode cX5_work 4 = .ok (.invokestatic 41, 3) := by decide +kernel
theorem dX5_work_7 : decode cX5_work 7 = .ok (.ifCond .eq 23, 3) := by decide +kernel
theorem dX5_work_10 : decode cX5_work 10 = .ok (.iload_n 1, 1) := by decide +kernel
theorem dX5_work_11 : decode cX5_work 11 = .ok (.iconst 3, 1) := by decide +kernel
theorem dX5_work_12 : decode cX5_work 12 = .ok (.if_icmp .ne 14, 3) := by decide +kernel
theorem dX5_work_15 : decode cX5_work 15 = .ok (.iload_n 3, 1) := by decide +kernel
theorem dX5_work_16 : decode cX5_work 16 = .ok (.bipush (-31), 2) := by decide +kernel
theorem dX5_work_18 : decode cX5_work 18 = .ok (.bipush 31, 2) := by decide +kernel
theorem dX5_work_20 : decode cX5_work 20 = .ok (.invokestatic 41, 3) := by decide +kernel
theorem dX5_work_23 : decode cX5_work 23 = .ok (.ifCond .eq 7, 3) := by decide +kernel
theorem dX5_work_26 : decode cX5_work 26 = .ok (.iconst 0, 1) := by decide +kernel
theorem dX5_work_27 : decode cX5_work 27 = .ok (.goto 4, 3) := by decide +kernel
theorem dX5_work_30 : decode cX5_work 30 = .ok (.iconst 1, 1) := by decide +kernel
theorem dX5_work_31 : decode cX5_work 31 = .ok (.invokevirtual 45, 3) := by decide +kernel
theorem dX5_work_34 : decode cX5_work 34 = .ok (.ifCond .eq 5, 3) := by decide +kernel
theorem dX5_work_37 : decode cX5_work 37 = .ok (.iconst 0, 1) := by decide +kernel
theorem dX5_work_38 : decode cX5_work 38 = .ok (.ireturn, 1) := by decide +kernel
theorem dX5_work_39 : decode cX5_work 39 = .ok (.iload_n 1, 1) := by decide +kernel
theorem dX5_work_40 : decode cX5_work 40 = .ok (.iload_n 2, 1) := by decide +kernel
theorem dX5_work_41 : decode cX5_work 41 = .ok (.i2l, 1) := by decide +kernel
theorem dX5_work_42 : decode cX5_work 42 = .ok (.iload_n 3, 1) := by decide +kernel
theorem dX5_work_43 : decode cX5_work 43 = .ok (.bipush 31, 2) := by decide +kernel
theorem dX5_work_45 : decode cX5_work 45 = .ok (.ldc2_w 49, 3) := by decide +kernel
theorem dX5_work_48 : decode cX5_work 48 = .ok (.invokestatic 51, 3) := by decide +kernel
theorem dX5_work_51 : decode cX5_work 51 = .ok (.ireturn, 1) := by decide +kernel
theorem dX5_small_0 : decode cX5_small 0 = .ok (.iload_n 1, 1) := by decide +kernel
theorem dX5_small_1 : decode cX5_small 1 = .ok (.iconst 3, 1) := by decide +kernel
theorem dX5_small_2 : decode cX5_small 2 = .ok (.if_icmp .gt 29, 3) := by decide +kernel
theorem dX5_small_5 : decode cX5_small 5 = .ok (.iload_n 1, 1) := by decide +kernel
theorem dX5_small_6 : decode cX5_small 6 = .ok (.iconst 3, 1) := by decide +kernel
theorem dX5_small_7 : decode cX5_small 7 = .ok (.if_icmp .ne 17, 3) := by decide +kernel
theorem dX5_small_10 : decode cX5_small 10 = .ok (.iload_n 3, 1) := by decide +kernel
theorem dX5_small_11 : decode cX5_small 11 = .ok (.bipush (-15), 2) := by decide +kernel
theorem dX5_small_13 : decode cX5_small 13 = .ok (.bipush 15, 2) := by decide +kernel
theorem dX5_small_15 : decode cX5_small 15 = .ok (.invokestatic 41, 3) := by decide +kernel
theorem dX5_small_18 : decode cX5_small 18 = .ok (.ifCond .eq 17, 3) := by decide +kernel
theorem dX5_small_21 : decode cX5_small 21 = .ok (.goto 10, 3) := by decide +kernel
theorem dX5_small_24 : decode cX5_small 24 = .ok (.iload_n 3, 1) := by decide +kernel
theorem dX5_small_25 : decode cX5_small 25 = .ok (.invokestatic 55, 3) := by decide +kernel
theorem dX5_small_28 : decode cX5_small 28 = .ok (.ifCond .eq 7, 3) := by decide +kernel
theorem dX5_small_31 : decode cX5_small 31 = .ok (.iconst 1, 1) := by decide +kernel
theorem dX5_small_32 : decode cX5_small 32 = .ok (.goto 4, 3) := by decide +kernel
theorem dX5_small_35 : decode cX5_small 35 = .ok (.iconst 0, 1) := by decide +kernel
theorem dX5_small_36 : decode cX5_small 36 = .ok (.istore 4, 2) := by decide +kernel
theorem dX5_small_38 : decode cX5_small 38 = .ok (.aload_n 0, 1) := by decide +kernel
theorem dX5_small_39 : decode cX5_small 39 = .ok (.iload_n 1, 1) := by decide +kernel
theorem dX5_small_40 : decode cX5_small 40 = .ok (.iconst 0, 1) := by decide +kernel
theorem dX5_small_41 : decode cX5_small 41 = .ok (.iconst 5, 1) := by decide +kernel
theorem dX5_small_42 : decode cX5_small 42 = .ok (.invokestatic 41, 3) := by decide +kernel
theorem dX5_small_45 : decode cX5_small 45 = .ok (.ifCond .eq 19, 3) := by decide +kernel
theorem dX5_small_48 : decode cX5_small 48 = .ok (.iload_n 2, 1) := by decide +kernel
theorem dX5_small_49 : decode cX5_small 49 = .ok (.invokestatic 55, 3) := by decide +kernel
theorem dX5_small_52 : decode cX5_small 52 = .ok (.ifCond .eq 12, 3) := by decide +kernel
theorem dX5_small_55 : decode cX5_small 55 = .ok (.iload 4, 2) := by decide +kernel
theorem dX5_small_57 : decode cX5_small 57 = .ok (.ifCond .eq 7, 3) := by decide +kernel
theorem dX5_small_60 : decode cX5_small 60 = .ok (.iconst 0, 1) := by decide +kernel
theorem dX5_small_61 : decode cX5_small 61 = .ok (.goto 4, 3) := by decide +kernel
theorem dX5_small_64 : decode cX5_small 64 = .ok (.iconst 1, 1) := by decide +kernel
theorem dX5_small_65 : decode cX5_small 65 = .ok (.invokevirtual 45, 3) := by decide +kernel
theorem dX5_small_68 : decode cX5_small 68 = .ok (.ifCond .eq 5, 3) := by decide +kernel
theorem dX5_small_71 : decode cX5_small 71 = .ok (.iconst 0, 1) := by decide +kernel
theorem dX5_small_72 : decode cX5_small 72 = .ok (.ireturn, 1) := by decide +kernel
theorem dX5_small_73 : decode cX5_small 73 = .ok (.iload_n 1, 1) := by decide +kernel
theorem dX5_small_74 : decode cX5_small 74 = .ok (.iload_n 2, 1) := by decide +kernel
theorem dX5_small_75 : decode cX5_small 75 = .ok (.i2l, 1) := by decide +kernel
theorem dX5_small_76 : decode cX5_small 76 = .ok (.iload_n 3, 1) := by decide +kernel
theorem dX5_small_77 : decode cX5_small 77 = .ok (.bipush 15, 2) := by decide +kernel
theorem dX5_small_79 : decode cX5_small 79 = .ok (.ldc2_w 58, 3) := by decide +kernel
theorem dX5_small_82 : decode cX5_small 82 = .ok (.invokestatic 51, 3) := by decide +kernel
theorem dX5_small_85 : decode cX5_small 85 = .ok (.ireturn, 1) := by decide +kernel
theorem dX5_narrow_0 : decode cX5_narrow 0 = .ok (.aload_n 0, 1) := by decide +kernel
theorem dX5_narrow_1 : decode cX5_narrow 1 = .ok (.iconst 0, 1) := by decide +kernel
theorem dX5_narrow_2 : decode cX5_narrow 2 = .ok (.putfield 29, 3) := by decide +kernel
theorem dX5_narrow_5 : decode cX5_narrow 5 = .ok (.iload_n 1, 1) := by decide +kernel
theorem dX5_narrow_6 : decode cX5_narrow 6 = .ok (.i2l, 1) := by decide +kernel
theorem dX5_narrow_7 : decode cX5_narrow 7 = .ok (.bipush 16, 2) := by decide +kernel
theorem dX5_narrow_9 : decode cX5_narrow 9 = .ok (.invokestatic 37, 3) := by decide +kernel
theorem dX5_narrow_12 : decode cX5_narrow 12 = .ok (.ldc2_w 58, 3) := by decide +kernel
theorem dX5_narrow_15 : decode cX5_narrow 15 = .ok (.invokestatic 33, 3) := by decide +kernel
theorem dX5_narrow_18 : decode cX5_narrow 18 = .ok (.ireturn, 1) := by decide +kernel
theorem dX5_tap_0 : decode cX5_tap 0 = .ok (.aload_n 0, 1) := by decide +kernel
theorem dX5_tap_1 : decode cX5_tap 1 = .ok (.iload_n 1, 1) := by decide +kernel
theorem dX5_tap_2 : decode cX5_tap 2 = .ok (.iconst 0, 1) := by decide +kernel
theorem dX5_tap_3 : decode cX5_tap 3 = .ok (.bipush 15, 2) := by decide +kernel
theorem dX5_tap_5 : decode cX5_tap 5 = .ok (.invokestatic 41, 3) := by decide +kernel
theorem dX5_tap_8 : decode cX5_tap 8 = .ok (.ifCond .eq 14, 3) := by decide +kernel
theorem dX5_tap_11 : decode cX5_tap 11 = .ok (.iload_n 2, 1) := by decide +kernel
theorem dX5_tap_12 : decode cX5_tap 12 = .ok (.invokestatic 55, 3) := by decide +kernel
theorem dX5_tap_15 : decode cX5_tap 15 = .ok (.ifCond .eq 7, 3) := by decide +kernel
theorem dX5_tap_18 : decode cX5_tap 18 = .ok (.iconst 0, 1) := by decide +kernel
theorem dX5_tap_19 : decode cX5_tap 19 = .ok (.goto 4, 3) := by decide +kernel
theorem dX5_tap_22 : decode cX5_tap 22 = .ok (.iconst 1, 1) := by decide +kernel
theorem dX5_tap_23 : decode cX5_tap 23 = .ok (.invokevirtual 45, 3) := by decide +kernel
theorem dX5_tap_26 : decode cX5_tap 26 = .ok (.ifCond .eq 4, 3) := by decide +kernel
theorem dX5_tap_29 : decode cX5_tap 29 = .ok (.return_, 1) := by decide +kernel
theorem dX5_tap_30 : decode cX5_tap 30 = .ok (.aload_n 0, 1) := by decide +kernel
theorem dX5_tap_31 : decode cX5_tap 31 = .ok (.getfield 7, 3) := by decide +kernel
theorem dX5_tap_34 : decode cX5_tap 34 = .ok (.iload_n 1, 1) := by decide +kernel
theorem dX5_tap_35 : decode cX5_tap 35 = .ok (.iload_n 2, 1) := by decide +kernel
theorem dX5_tap_36 : decode cX5_tap 36 = .ok (.iastore, 1) := by decide +kernel
theorem dX5_tap_37 : decode cX5_tap 37 = .ok (.return_, 1) := by decide +kernel
theorem dX5_filter_0 : decode cX5_filter 0 = .ok (.aload_n 0, 1) := by decide +kernel
theorem dX5_filter_1 : decode cX5_filter 1 = .ok (.iload_n 1, 1) := by decide +kernel
theorem dX5_filter_2 : decode cX5_filter 2 = .ok (.invokestatic 55, 3) := by decide +kernel
theorem dX5_filter_5 : decode cX5_filter 5 = .ok (.ifCond .eq 7, 3) := by decide +kernel
theorem dX5_filter_8 : decode cX5_filter 8 = .ok (.iconst 0, 1) := by decide +kernel
theorem dX5_filter_9 : decode cX5_filter 9 = .ok (.goto 4, 3) := by decide +kernel
theorem dX5_filter_12 : decode cX5_filter 12 = .ok (.iconst 1, 1) := by decide +kernel
theorem dX5_filter_13 : decode cX5_filter 13 = .ok (.invokevirtual 45, 3) := by decide +kernel
theorem dX5_filter_16 : decode cX5_filter 16 = .ok (.ifCond .eq 5, 3) := by decide +kernel
theorem dX5_filter_19 : decode cX5_filter 19 = .ok (.iconst 0, 1) := by decide +kernel
theorem dX5_filter_20 : decode cX5_filter 20 = .ok (.ireturn, 1) := by decide +kernel
theorem dX5_filter_21 : decode cX5_filter 21 = .ok (.lconst 0, 1) := by decide +kernel
theorem dX5_filter_22 : decode cX5_filter 22 = .ok (.lstore_n 2, 1) := by decide +kernel
theorem dX5_filter_23 : decode cX5_filter 23 = .ok (.bipush 15, 2) := by decide +kernel
theorem dX5_filter_25 : decode cX5_filter 25 = .ok (.istore 4, 2) := by decide +kernel
theorem dX5_filter_27 : decode cX5_filter 27 = .ok (.iload 4, 2) := by decide +kernel
theorem dX5_filter_29 : decode cX5_filter 29 = .ok (.ifCond .le 44, 3) := by decide +kernel
theorem dX5_filter_32 : decode cX5_filter 32 = .ok (.aload_n 0, 1) := by decide +kernel
theorem dX5_filter_33 : decode cX5_filter 33 = .ok (.getfield 13, 3) := by decide +kernel
theorem dX5_filter_36 : decode cX5_filter 36 = .ok (.iload 4, 2) := by decide +kernel
theorem dX5_filter_38 : decode cX5_filter 38 = .ok (.aload_n 0, 1) := by decide +kernel
theorem dX5_filter_39 : decode cX5_filter 39 = .ok (.getfield 13, 3) := by decide +kernel
theorem dX5_filter_42 : decode cX5_filter 42 = .ok (.iload 4, 2) := by decide +kernel
theorem dX5_filter_44 : decode cX5_filter 44 = .ok (.iconst 1, 1) := by decide +kernel
theorem dX5_filter_45 : decode cX5_filter 45 = .ok (.isub, 1) := by decide +kernel
theorem dX5_filter_46 : decode cX5_filter 46 = .ok (.iaload, 1) := by decide +kernel
theorem dX5_filter_47 : decode cX5_filter 47 = .ok (.iastore, 1) := by decide +kernel
theorem dX5_filter_48 : decode cX5_filter 48 = .ok (.lload_n 2, 1) := by decide +kernel
theorem dX5_filter_49 : decode cX5_filter 49 = .ok (.aload_n 0, 1) := by decide +kernel
theorem dX5_filter_50 : decode cX5_filter 50 = .ok (.getfield 7, 3) := by decide +kernel
theorem dX5_filter_53 : decode cX5_filter 53 = .ok (.iload 4, 2) := by decide +kernel
theorem dX5_filter_55 : decode cX5_filter 55 = .ok (.iaload, 1) := by decide +kernel
theorem dX5_filter_56 : decode cX5_filter 56 = .ok (.aload_n 0, 1) := by decide +kernel
theorem dX5_filter_57 : decode cX5_filter 57 = .ok (.getfield 13, 3) := by decide +kernel
theorem dX5_filter_60 : decode cX5_filter 60 = .ok (.iload 4, 2) := by decide +kernel
theorem dX5_filter_62 : decode cX5_filter 62 = .ok (.iaload, 1) := by decide +kernel
theorem dX5_filter_63 : decode cX5_filter 63 = .ok (.imul, 1) := by decide +kernel
theorem dX5_filter_64 : decode cX5_filter 64 = .ok (.i2l, 1) := by decide +kernel
theorem dX5_filter_65 : decode cX5_filter 65 = .ok (.ladd, 1) := by decide +kernel
theorem dX5_filter_66 : decode cX5_filter 66 = .ok (.lstore_n 2, 1) := by decide +kernel
theorem dX5_filter_67 : decode cX5_filter 67 = .ok (.iinc 4 (-1), 3) := by decide +kernel
theorem dX5_filter_70 : decode cX5_filter 70 = .ok (.goto (-43), 3) := by decide +kernel
theorem dX5_filter_73 : decode cX5_filter 73 = .ok (.aload_n 0, 1) := by decide +kernel
theorem dX5_filter_74 : decode cX5_filter 74 = .ok (.getfield 13, 3) := by decide +kernel
theorem dX5_filter_77 : decode cX5_filter 77 = .ok (.iconst 0, 1) := by decide +kernel
theorem dX5_filter_78 : decode cX5_filter 78 = .ok (.iload_n 1, 1) := by decide +kernel
theorem dX5_filter_79 : decode cX5_filter 79 = .ok (.iastore, 1) := by decide +kernel
theorem dX5_filter_80 : decode cX5_filter 80 = .ok (.lload_n 2, 1) := by decide +kernel
theorem dX5_filter_81 : decode cX5_filter 81 = .ok (.aload_n 0, 1) := by decide +kernel
theorem dX5_filter_82 : decode cX5_filter 82 = .ok (.getfield 7, 3) := by decide +kernel
theorem dX5_filter_85 : decode cX5_filter 85 = .ok (.iconst 0, 1) := by decide +kernel
theorem dX5_filter_86 : decode cX5_filter 86 = .ok (.iaload, 1) := by decide +kernel
theorem dX5_filter_87 : decode cX5_filter 87 = .ok (.iload_n 1, 1) := by decide +kernel
theorem dX5_filter_88 : decode cX5_filter 88 = .ok (.imul, 1) := by decide +kernel
theorem dX5_filter_89 : decode cX5_filter 89 = .ok (.i2l, 1) := by decide +kernel
theorem dX5_filter_90 : decode cX5_filter 90 = .ok (.ladd, 1) := by decide +kernel
theorem dX5_filter_91 : decode cX5_filter 91 = .ok (.lstore_n 2, 1) := by decide +kernel
theorem dX5_filter_92 : decode cX5_filter 92 = .ok (.lload_n 2, 1) := by decide +kernel
theorem dX5_filter_93 : decode cX5_filter 93 = .ok (.bipush 15, 2) := by decide +kernel
theorem dX5_filter_95 : decode cX5_filter 95 = .ok (.invokestatic 37, 3) := by decide +kernel
theorem dX5_filter_98 : decode cX5_filter 98 = .ok (.ldc2_w 58, 3) := by decide +kernel
theorem dX5_filter_101 : decode cX5_filter 101 = .ok (.invokestatic 33, 3) := by decide +kernel
theorem dX5_filter_104 : decode cX5_filter 104 = .ok (.ireturn, 1) := by decide +kernel
theorem dX5_stage_0 : decode cX5_stage 0 = .ok (.aload_n 0, 1) := by decide +kernel
theorem dX5_stage_1 : decode cX5_stage 1 = .ok (.iload_n 1, 1) := by decide +kernel
theorem dX5_stage_2 : decode cX5_stage 2 = .ok (.iconst 0, 1) := by decide +kernel
theorem dX5_stage_3 : decode cX5_stage 3 = .ok (.iconst 3, 1) := by decide +kernel
theorem dX5_stage_4 : decode cX5_stage 4 = .ok (.invokestatic 41, 3) := by decide +kernel
theorem dX5_stage_7 : decode cX5_stage 7 = .ok (.ifCond .eq 23, 3) := by decide +kernel
theorem dX5_stage_10 : decode cX5_stage 10 = .ok (.iload_n 2, 1) := by decide +kernel
theorem dX5_stage_11 : decode cX5_stage 11 = .ok (.iconst 0, 1) := by decide +kernel
theorem dX5_stage_12 : decode cX5_stage 12 = .ok (.iconst 4, 1) := by decide +kernel
theorem dX5_stage_13 : decode cX5_stage 13 = .ok (.invokestatic 41, 3) := by decide +kernel
theorem dX5_stage_16 : decode cX5_stage 16 = .ok (.ifCond .eq 14, 3) := by decide +kernel
theorem dX5_stage_19 : decode cX5_stage 19 = .ok (.iload_n 3, 1) := by decide +kernel
theorem dX5_stage_20 : decode cX5_stage 20 = .ok (.invokestatic 55, 3) := by decide +kernel
theorem dX5_stage_23 : decode cX5_stage 23 = .ok (.ifCond .eq 7, 3) := by decide +kernel
theorem dX5_stage_26 : decode cX5_stage 26 = .ok (.iconst 0, 1) := by decide +kernel
theorem dX5_stage_27 : decode cX5_stage 27 = .ok (.goto 4, 3) := by decide +kernel
theorem dX5_stage_30 : decode cX5_stage 30 = .ok (.iconst 1, 1) := by decide +kernel
theorem dX5_stage_31 : decode cX5_stage 31 = .ok (.invokevirtual 45, 3) := by decide +kernel
theorem dX5_stage_34 : decode cX5_stage 34 = .ok (.ifCond .eq 4, 3) := by decide +kernel
theorem dX5_stage_37 : decode cX5_stage 37 = .ok (.return_, 1) := by decide +kernel
theorem dX5_stage_38 : decode cX5_stage 38 = .ok (.aload_n 0, 1) := by decide +kernel
theorem dX5_stage_39 : decode cX5_stage 39 = .ok (.getfield 16, 3) := by decide +kernel
theorem dX5_stage_42 : decode cX5_stage 42 = .ok (.iconst 5, 1) := by decide +kernel
theorem dX5_stage_43 : decode cX5_stage 43 = .ok (.iload_n 1, 1) := by decide +kernel
theorem dX5_stage_44 : decode cX5_stage 44 = .ok (.imul, 1) := by decide +kernel
theorem dX5_stage_45 : decode cX5_stage 45 = .ok (.iload_n 2, 1) := by decide +kernel
theorem dX5_stage_46 : decode cX5_stage 46 = .ok (.iadd, 1) := by decide +kernel
theorem dX5_stage_47 : decode cX5_stage 47 = .ok (.iload_n 3, 1) := by decide +kernel
theorem dX5_stage_48 : decode cX5_stage 48 = .ok (.iastore, 1) := by decide +kernel
theorem dX5_stage_49 : decode cX5_stage 49 = .ok (.return_, 1) := by decide +kernel
theorem dX5_chain_0 : decode cX5_chain 0 = .ok (.aload_n 0, 1) := by decide +kernel
theorem dX5_chain_1 : decode cX5_chain 1 = .ok (.iload_n 1, 1) := by decide +kernel
theorem dX5_chain_2 : decode cX5_chain 2 = .ok (.invokestatic 55, 3) := by decide +kernel
theorem dX5_chain_5 : decode cX5_chain 5 = .ok (.ifCond .eq 7, 3) := by decide +kernel
theorem dX5_chain_8 : decode cX5_chain 8 = .ok (.iconst 0, 1) := by decide +kernel
theorem dX5_chain_9 : decode cX5_chain 9 = .ok (.goto 4, 3) := by decide +kernel
theorem dX5_chain_12 : decode cX5_chain 12 = .ok (.iconst 1, 1) := by decide +kernel
theorem dX5_chain_13 : decode cX5_chain 13 = .ok (.invokevirtual 45, 3) := by decide +kernel
theorem dX5_chain_16 : decode cX5_chain 16 = .ok (.ifCond .eq 5, 3) := by decide +kernel
theorem dX5_chain_19 : decode cX5_chain 19 = .ok (.iconst 0, 1) := by decide +kernel
theorem dX5_chain_20 : decode cX5_chain 20 = .ok (.ireturn, 1) := by decide +kernel
theorem dX5_chain_21 : decode cX5_chain 21 = .ok (.iload_n 1, 1) := by decide +kernel
theorem dX5_chain_22 : decode cX5_chain 22 = .ok (.i2l, 1) := by decide +kernel
theorem dX5_chain_23 : decode cX5_chain 23 = .ok (.lstore_n 2, 1) := by decide +kernel
theorem dX5_chain_24 : decode cX5_chain 24 = .ok (.iconst 0, 1) := by decide +kernel
theorem dX5_chain_25 : decode cX5_chain 25 = .ok (.istore 4, 2) := by decide +kernel
theorem dX5_chain_27 : decode cX5_chain 27 = .ok (.iload 4, 2) := by decide +kernel
theorem dX5_chain_29 : decode cX5_chain 29 = .ok (.iconst 4, 1) := by decide +kernel
theorem dX5_chain_30 : decode cX5_chain 30 = .ok (.if_icmp .ge 171, 3) := by decide +kernel
theorem dX5_chain_33 : decode cX5_chain 33 = .ok (.aload_n 0, 1) := by decide +kernel
theorem dX5_chain_34 : decode cX5_chain 34 = .ok (.getfield 16, 3) := by decide +kernel
theorem dX5_chain_37 : decode cX5_chain 37 = .ok (.iconst 5, 1) := by decide +kernel
theorem dX5_chain_38 : decode cX5_chain 38 = .ok (.iload 4, 2) := by decide +kernel
theorem dX5_chain_40 : decode cX5_chain 40 = .ok (.imul, 1) := by decide +kernel
theorem dX5_chain_41 : decode cX5_chain 41 = .ok (.iaload, 1) := by decide +kernel
theorem dX5_chain_42 : decode cX5_chain 42 = .ok (.i2l, 1) := by decide +kernel
theorem dX5_chain_43 : decode cX5_chain 43 = .ok (.lload_n 2, 1) := by decide +kernel
theorem dX5_chain_44 : decode cX5_chain 44 = .ok (.lmul, 1) := by decide +kernel
theorem dX5_chain_45 : decode cX5_chain 45 = .ok (.lstore 5, 2) := by decide +kernel
theorem dX5_chain_47 : decode cX5_chain 47 = .ok (.iconst 0, 1) := by decide +kernel
theorem dX5_chain_48 : decode cX5_chain 48 = .ok (.istore 7, 2) := by decide +kernel
theorem dX5_chain_50 : decode cX5_chain 50 = .ok (.iload 7, 2) := by decide +kernel
theorem dX5_chain_52 : decode cX5_chain 52 = .ok (.iconst 4, 1) := by decide +kernel
theorem dX5_chain_53 : decode cX5_chain 53 = .ok (.if_icmp .ge 61, 3) := by decide +kernel
theorem dX5_chain_56 : decode cX5_chain 56 = .ok (.aload_n 0, 1) := by decide +kernel
theorem dX5_chain_57 : decode cX5_chain 57 = .ok (.getfield 16, 3) := by decide +kernel
theorem dX5_chain_60 : decode cX5_chain 60 = .ok (.iconst 5, 1) := by decide +kernel
theorem dX5_chain_61 : decode cX5_chain 61 = .ok (.iload 4, 2) := by decide +kernel
theorem dX5_chain_63 : decode cX5_chain 63 = .ok (.imul, 1) := by decide +kernel
theorem dX5_chain_64 : decode cX5_chain 64 = .ok (.iconst 1, 1) := by decide +kernel
theorem dX5_chain_65 : decode cX5_chain 65 = .ok (.iadd, 1) := by decide +kernel
theorem dX5_chain_66 : decode cX5_chain 66 = .ok (.iload 7, 2) := by decide +kernel
theorem dX5_chain_68 : decode cX5_chain 68 = .ok (.iadd, 1) := by decide +kernel
theorem dX5_chain_69 : decode cX5_chain 69 = .ok (.iaload, 1) := by decide +kernel
theorem dX5_chain_70 : decode cX5_chain 70 = .ok (.i2l, 1) := by decide +kernel
theorem dX5_chain_71 : decode cX5_chain 71 = .ok (.aload_n 0, 1) := by decide +kernel
theorem dX5_chain_72 : decode cX5_chain 72 = .ok (.getfield 19, 3) := by decide +kernel
theorem dX5_chain_75 : decode cX5_chain 75 = .ok (.iconst 4, 1) := by decide +kernel
theorem dX5_chain_76 : decode cX5_chain 76 = .ok (.iload 4, 2) := by decide +kernel
theorem dX5_chain_78 : decode cX5_chain 78 = .ok (.imul, 1) := by decide +kernel
theorem dX5_chain_79 : decode cX5_chain 79 = .ok (.iload 7, 2) := by decide +kernel
theorem dX5_chain_81 : decode cX5_chain 81 = .ok (.iadd, 1) := by decide +kernel
theorem dX5_chain_82 : decode cX5_chain 82 = .ok (.iaload, 1) := by decide +kernel
theorem dX5_chain_83 : decode cX5_chain 83 = .ok (.i2l, 1) := by decide +kernel
theorem dX5_chain_84 : decode cX5_chain 84 = .ok (.lmul, 1) := by decide +kernel
theorem dX5_chain_85 : decode cX5_chain 85 = .ok (.lstore 8, 2) := by decide +kernel
theorem dX5_chain_87 : decode cX5_chain 87 = .ok (.iload 7, 2) := by decide +kernel
theorem dX5_chain_89 : decode cX5_chain 89 = .ok (.iconst 2, 1) := by decide +kernel
theorem dX5_chain_90 : decode cX5_chain 90 = .ok (.if_icmp .ge 11, 3) := by decide +kernel
theorem dX5_chain_93 : decode cX5_chain 93 = .ok (.lload 5, 2) := by decide +kernel
theorem dX5_chain_95 : decode cX5_chain 95 = .ok (.lload 8, 2) := by decide +kernel
theorem dX5_chain_97 : decode cX5_chain 97 = .ok (.ladd, 1) := by decide +kernel
theorem dX5_chain_98 : decode cX5_chain 98 = .ok (.goto 8, 3) := by decide +kernel
theorem dX5_chain_101 : decode cX5_chain 101 = .ok (.lload 5, 2) := by decide +kernel
theorem dX5_chain_103 : decode cX5_chain 103 = .ok (.lload 8, 2) := by decide +kernel
theorem dX5_chain_105 : decode cX5_chain 105 = .ok (.lsub, 1) := by decide +kernel
theorem dX5_chain_106 : decode cX5_chain 106 = .ok (.lstore 5, 2) := by decide +kernel
theorem dX5_chain_108 : decode cX5_chain 108 = .ok (.iinc 7 1, 3) := by decide +kernel
theorem dX5_chain_111 : decode cX5_chain 111 = .ok (.goto (-61), 3) := by decide +kernel
theorem dX5_chain_114 : decode cX5_chain 114 = .ok (.aload_n 0, 1) := by decide +kernel
theorem dX5_chain_115 : decode cX5_chain 115 = .ok (.getfield 19, 3) := by decide +kernel
theorem dX5_chain_118 : decode cX5_chain 118 = .ok (.iconst 4, 1) := by decide +kernel
theorem dX5_chain_119 : decode cX5_chain 119 = .ok (.iload 4, 2) := by decide +kernel
theorem dX5_chain_121 : decode cX5_chain 121 = .ok (.imul, 1) := by decide +kernel
theorem dX5_chain_122 : decode cX5_chain 122 = .ok (.iconst 1, 1) := by decide +kernel
theorem dX5_chain_123 : decode cX5_chain 123 = .ok (.iadd, 1) := by decide +kernel
theorem dX5_chain_124 : decode cX5_chain 124 = .ok (.aload_n 0, 1) := by decide +kernel
theorem dX5_chain_125 : decode cX5_chain 125 = .ok (.getfield 19, 3) := by decide +kernel
theorem dX5_chain_128 : decode cX5_chain 128 = .ok (.iconst 4, 1) := by decide +kernel
theorem dX5_chain_129 : decode cX5_chain 129 = .ok (.iload 4, 2) := by decide +kernel
theorem dX5_chain_131 : decode cX5_chain 131 = .ok (.imul, 1) := by decide +kernel
theorem dX5_chain_132 : decode cX5_chain 132 = .ok (.iaload, 1) := by decide +kernel
theorem dX5_chain_133 : decode cX5_chain 133 = .ok (.iastore, 1) := by decide +kernel
theorem dX5_chain_134 : decode cX5_chain 134 = .ok (.aload_n 0, 1) := by decide +kernel
theorem dX5_chain_135 : decode cX5_chain 135 = .ok (.getfield 19, 3) := by decide +kernel
theorem dX5_chain_138 : decode cX5_chain 138 = .ok (.iconst 4, 1) := by decide +kernel
theorem dX5_chain_139 : decode cX5_chain 139 = .ok (.iload 4, 2) := by decide +kernel
theorem dX5_chain_141 : decode cX5_chain 141 = .ok (.imul, 1) := by decide +kernel
theorem dX5_chain_142 : decode cX5_chain 142 = .ok (.lload_n 2, 1) := by decide +kernel
theorem dX5_chain_143 : decode cX5_chain 143 = .ok (.l2i, 1) := by decide +kernel
theorem dX5_chain_144 : decode cX5_chain 144 = .ok (.iastore, 1) := by decide +kernel
theorem dX5_chain_145 : decode cX5_chain 145 = .ok (.aload_n 0, 1) := by decide +kernel
theorem dX5_chain_146 : decode cX5_chain 146 = .ok (.getfield 19, 3) := by decide +kernel
theorem dX5_chain_149 : decode cX5_chain 149 = .ok (.iconst 4, 1) := by decide +kernel
theorem dX5_chain_150 : decode cX5_chain 150 = .ok (.iload 4, 2) := by decide +kernel
theorem dX5_chain_152 : decode cX5_chain 152 = .ok (.imul, 1) := by decide +kernel
theorem dX5_chain_153 : decode cX5_chain 153 = .ok (.iconst 3, 1) := by decide +kernel
theorem dX5_chain_154 : decode cX5_chain 154 = .ok (.iadd, 1) := by decide +kernel
theorem dX5_chain_155 : decode cX5_chain 155 = .ok (.aload_n 0, 1) := by decide +kernel
theorem dX5_chain_156 : decode cX5_chain 156 = .ok (.getfield 19, 3) := by decide +kernel
theorem dX5_chain_159 : decode cX5_chain 159 = .ok (.iconst 4, 1) := by decide +kernel
theorem dX5_chain_160 : decode cX5_chain 160 = .ok (.iload 4, 2) := by decide +kernel
theorem dX5_chain_162 : decode cX5_chain 162 = .ok (.imul, 1) := by decide +kernel
theorem dX5_chain_163 : decode cX5_chain 163 = .ok (.iconst 2, 1) := by decide +kernel
theorem dX5_chain_164 : decode cX5_chain 164 = .ok (.iadd, 1) := by decide +kernel
theorem dX5_chain_165 : decode cX5_chain 165 = .ok (.iaload, 1) := by decide +kernel
theorem dX5_chain_166 : decode cX5_chain 166 = .ok (.iastore, 1) := by decide +kernel
theorem dX5_chain_167 : decode cX5_chain 167 = .ok (.lload 5, 2) := by decide +kernel
theorem dX5_chain_169 : decode cX5_chain 169 = .ok (.bipush 14, 2) := by decide +kernel
theorem dX5_chain_171 : decode cX5_chain 171 = .ok (.invokestatic 37, 3) := by decide +kernel
theorem dX5_chain_174 : decode cX5_chain 174 = .ok (.ldc2_w 58, 3) := by decide +kernel
theorem dX5_chain_177 : decode cX5_chain 177 = .ok (.invokestatic 33, 3) := by decide +kernel
theorem dX5_chain_180 : decode cX5_chain 180 = .ok (.i2l, 1) := by decide +kernel
theorem dX5_chain_181 : decode cX5_chain 181 = .ok (.lstore_n 2, 1) := by decide +kernel
theorem dX5_chain_182 : decode cX5_chain 182 = .ok (.aload_n 0, 1) := by decide +kernel
theorem dX5_chain_183 : decode cX5_chain 183 = .ok (.getfield 19, 3) := by decide +kernel
theorem dX5_chain_186 : decode cX5_chain 186 = .ok (.iconst 4, 1) := by decide +kernel
theorem dX5_chain_187 : decode cX5_chain 187 = .ok (.iload 4, 2) := by decide +kernel
theorem dX5_chain_189 : decode cX5_chain 189 = .ok (.imul, 1) := by decide +kernel
theorem dX5_chain_190 : decode cX5_chain 190 = .ok (.iconst 2, 1) := by decide +kernel
theorem dX5_chain_191 : decode cX5_chain 191 = .ok (.iadd, 1) := by decide +kernel
theorem dX5_chain_192 : decode cX5_chain 192 = .ok (.lload_n 2, 1) := by decide +kernel
theorem dX5_chain_193 : decode cX5_chain 193 = .ok (.l2i, 1) := by decide +kernel
theorem dX5_chain_194 : decode cX5_chain 194 = .ok (.iastore, 1) := by decide +kernel
theorem dX5_chain_195 : decode cX5_chain 195 = .ok (.iinc 4 1, 3) := by decide +kernel
theorem dX5_chain_198 : decode cX5_chain 198 = .ok (.goto (-171), 3) := by decide +kernel
theorem dX5_chain_201 : decode cX5_chain 201 = .ok (.lload_n 2, 1) := by decide +kernel
theorem dX5_chain_202 : decode cX5_chain 202 = .ok (.l2i, 1) := by decide +kernel
theorem dX5_chain_203 : decode cX5_chain 203 = .ok (.ireturn, 1) := by decide +kernel
theorem dX5_calm_0 : decode cX5_calm 0 = .ok (.aload_n 0, 1) := by decide +kernel
theorem dX5_calm_1 : decode cX5_calm 1 = .ok (.iconst 0, 1) := by decide +kernel
theorem dX5_calm_2 : decode cX5_calm 2 = .ok (.putfield 29, 3) := by decide +kernel
theorem dX5_calm_5 : decode cX5_calm 5 = .ok (.iconst 0, 1) := by decide +kernel
theorem dX5_calm_6 : decode cX5_calm 6 = .ok (.istore_n 1, 1) := by decide +kernel
theorem dX5_calm_7 : decode cX5_calm 7 = .ok (.iload_n 1, 1) := by decide +kernel
theorem dX5_calm_8 : decode cX5_calm 8 = .ok (.bipush 16, 2) := by decide +kernel
theorem dX5_calm_10 : decode cX5_calm 10 = .ok (.if_icmp .ge 23, 3) := by decide +kernel
theorem dX5_calm_13 : decode cX5_calm 13 = .ok (.aload_n 0, 1) := by decide +kernel
theorem dX5_calm_14 : decode cX5_calm 14 = .ok (.getfield 13, 3) := by decide +kernel
theorem dX5_calm_17 : decode cX5_calm 17 = .ok (.iload_n 1, 1) := by decide +kernel
theorem dX5_calm_18 : decode cX5_calm 18 = .ok (.iconst 0, 1) := by decide +kernel
theorem dX5_calm_19 : decode cX5_calm 19 = .ok (.iastore, 1) := by decide +kernel
theorem dX5_calm_20 : decode cX5_calm 20 = .ok (.aload_n 0, 1) := by decide +kernel
theorem dX5_calm_21 : decode cX5_calm 21 = .ok (.getfield 19, 3) := by decide +kernel
theorem dX5_calm_24 : decode cX5_calm 24 = .ok (.iload_n 1, 1) := by decide +kernel
theorem dX5_calm_25 : decode cX5_calm 25 = .ok (.iconst 0, 1) := by decide +kernel
theorem dX5_calm_26 : decode cX5_calm 26 = .ok (.iastore, 1) := by decide +kernel
theorem dX5_calm_27 : decode cX5_calm 27 = .ok (.iinc 1 1, 3) := by decide +kernel
theorem dX5_calm_30 : decode cX5_calm 30 = .ok (.goto (-23), 3) := by decide +kernel
theorem dX5_calm_33 : decode cX5_calm 33 = .ok (.return_, 1) := by decide +kernel
theorem dX5_eighth_0 : decode cX5_eighth 0 = .ok (.iload_n 0, 1) := by decide +kernel
theorem dX5_eighth_1 : decode cX5_eighth 1 = .ok (.tableswitch 77 0 7 #[47, 49, 53, 57, 61, 65, 69, 73], 47) := by decide +kernel
theorem dX5_eighth_48 : decode cX5_eighth 48 = .ok (.lconst 0, 1) := by decide +kernel
theorem dX5_eighth_49 : decode cX5_eighth 49 = .ok (.lreturn, 1) := by decide +kernel
theorem dX5_eighth_50 : decode cX5_eighth 50 = .ok (.ldc2_w 60, 3) := by decide +kernel
theorem dX5_eighth_53 : decode cX5_eighth 53 = .ok (.lreturn, 1) := by decide +kernel
theorem dX5_eighth_54 : decode cX5_eighth 54 = .ok (.ldc2_w 62, 3) := by decide +kernel
theorem dX5_eighth_57 : decode cX5_eighth 57 = .ok (.lreturn, 1) := by decide +kernel
theorem dX5_eighth_58 : decode cX5_eighth 58 = .ok (.ldc2_w 64, 3) := by decide +kernel
theorem dX5_eighth_61 : decode cX5_eighth 61 = .ok (.lreturn, 1) := by decide +kernel
theorem dX5_eighth_62 : decode cX5_eighth 62 = .ok (.ldc2_w 66, 3) := by decide +kernel
theorem dX5_eighth_65 : decode cX5_eighth 65 = .ok (.lreturn, 1) := by decide +kernel
theorem dX5_eighth_66 : decode cX5_eighth 66 = .ok (.ldc2_w 68, 3) := by decide +kernel
theorem dX5_eighth_69 : decode cX5_eighth 69 = .ok (.lreturn, 1) := by decide +kernel
theorem dX5_eighth_70 : decode cX5_eighth 70 = .ok (.ldc2_w 70, 3) := by decide +kernel
theorem dX5_eighth_73 : decode cX5_eighth 73 = .ok (.lreturn, 1) := by decide +kernel
theorem dX5_eighth_74 : decode cX5_eighth 74 = .ok (.ldc2_w 72, 3) := by decide +kernel
theorem dX5_eighth_77 : decode cX5_eighth 77 = .ok (.lreturn, 1) := by decide +kernel
theorem dX5_eighth_78 : decode cX5_eighth 78 = .ok (.ldc2_w 49, 3) := by decide +kernel
theorem dX5_eighth_81 : decode cX5_eighth 81 = .ok (.lreturn, 1) := by decide +kernel
theorem dX5_put_0 : decode cX5_put 0 = .ok (.aload_n 0, 1) := by decide +kernel
theorem dX5_put_1 : decode cX5_put 1 = .ok (.iload_n 1, 1) := by decide +kernel
theorem dX5_put_2 : decode cX5_put 2 = .ok (.iconst 0, 1) := by decide +kernel
theorem dX5_put_3 : decode cX5_put 3 = .ok (.bipush 31, 2) := by decide +kernel
theorem dX5_put_5 : decode cX5_put 5 = .ok (.invokestatic 41, 3) := by decide +kernel
theorem dX5_put_8 : decode cX5_put 8 = .ok (.ifCond .eq 7, 3) := by decide +kernel
theorem dX5_put_11 : decode cX5_put 11 = .ok (.iconst 0, 1) := by decide +kernel
theorem dX5_put_12 : decode cX5_put 12 = .ok (.goto 4, 3) := by decide +kernel
theorem dX5_put_15 : decode cX5_put 15 = .ok (.iconst 1, 1) := by decide +kernel
theorem dX5_put_16 : decode cX5_put 16 = .ok (.invokevirtual 45, 3) := by decide +kernel
theorem dX5_put_19 : decode cX5_put 19 = .ok (.ifCond .eq 4, 3) := by decide +kernel
theorem dX5_put_22 : decode cX5_put 22 = .ok (.return_, 1) := by decide +kernel
theorem dX5_put_23 : decode cX5_put 23 = .ok (.aload_n 0, 1) := by decide +kernel
theorem dX5_put_24 : decode cX5_put 24 = .ok (.getfield 22, 3) := by decide +kernel
theorem dX5_put_27 : decode cX5_put 27 = .ok (.iconst 2, 1) := by decide +kernel
theorem dX5_put_28 : decode cX5_put 28 = .ok (.iload_n 1, 1) := by decide +kernel
theorem dX5_put_29 : decode cX5_put 29 = .ok (.imul, 1) := by decide +kernel
theorem dX5_put_30 : decode cX5_put 30 = .ok (.iload_n 2, 1) := by decide +kernel
theorem dX5_put_31 : decode cX5_put 31 = .ok (.i2l, 1) := by decide +kernel
theorem dX5_put_32 : decode cX5_put 32 = .ok (.lastore, 1) := by decide +kernel
theorem dX5_put_33 : decode cX5_put 33 = .ok (.aload_n 0, 1) := by decide +kernel
theorem dX5_put_34 : decode cX5_put 34 = .ok (.getfield 22, 3) := by decide +kernel
theorem dX5_put_37 : decode cX5_put 37 = .ok (.iconst 2, 1) := by decide +kernel
theorem dX5_put_38 : decode cX5_put 38 = .ok (.iload_n 1, 1) := by decide +kernel
theorem dX5_put_39 : decode cX5_put 39 = .ok (.imul, 1) := by decide +kernel
theorem dX5_put_40 : decode cX5_put 40 = .ok (.iconst 1, 1) := by decide +kernel
theorem dX5_put_41 : decode cX5_put 41 = .ok (.iadd, 1) := by decide +kernel
theorem dX5_put_42 : decode cX5_put 42 = .ok (.iload_n 3, 1) := by decide +kernel
theorem dX5_put_43 : decode cX5_put 43 = .ok (.i2l, 1) := by decide +kernel
theorem dX5_put_44 : decode cX5_put 44 = .ok (.lastore, 1) := by decide +kernel
theorem dX5_put_45 : decode cX5_put 45 = .ok (.aload_n 0, 1) := by decide +kernel
theorem dX5_put_46 : decode cX5_put 46 = .ok (.iconst 0, 1) := by decide +kernel
theorem dX5_put_47 : decode cX5_put 47 = .ok (.putfield 74, 3) := by decide +kernel
theorem dX5_put_50 : decode cX5_put 50 = .ok (.return_, 1) := by decide +kernel
theorem dX5_mirrored_0 : decode cX5_mirrored 0 = .ok (.iconst 0, 1) := by decide +kernel
theorem dX5_mirrored_1 : decode cX5_mirrored 1 = .ok (.istore_n 2, 1) := by decide +kernel
theorem dX5_mirrored_2 : decode cX5_mirrored 2 = .ok (.iconst 0, 1) := by decide +kernel
theorem dX5_mirrored_3 : decode cX5_mirrored 3 = .ok (.istore_n 3, 1) := by decide +kernel
theorem dX5_mirrored_4 : decode cX5_mirrored 4 = .ok (.iload_n 3, 1) := by decide +kernel
theorem dX5_mirrored_5 : decode cX5_mirrored 5 = .ok (.iload_n 1, 1) := by decide +kernel
theorem dX5_mirrored_6 : decode cX5_mirrored 6 = .ok (.if_icmp .ge 19, 3) := by decide +kernel
theorem dX5_mirrored_9 : decode cX5_mirrored 9 = .ok (.iconst 2, 1) := by decide +kernel
theorem dX5_mirrored_10 : decode cX5_mirrored 10 = .ok (.iload_n 2, 1) := by decide +kernel
theorem dX5_mirrored_11 : decode cX5_mirrored 11 = .ok (.imul, 1) := by decide +kernel
theorem dX5_mirrored_12 : decode cX5_mirrored 12 = .ok (.iload_n 0, 1) := by decide +kernel
theorem dX5_mirrored_13 : decode cX5_mirrored 13 = .ok (.iload_n 3, 1) := by decide +kernel
theorem dX5_mirrored_14 : decode cX5_mirrored 14 = .ok (.ishr, 1) := by decide +kernel
theorem dX5_mirrored_15 : decode cX5_mirrored 15 = .ok (.iconst 1, 1) := by decide +kernel
theorem dX5_mirrored_16 : decode cX5_mirrored 16 = .ok (.iand, 1) := by decide +kernel
theorem dX5_mirrored_17 : decode cX5_mirrored 17 = .ok (.iadd, 1) := by decide +kernel
theorem dX5_mirrored_18 : decode cX5_mirrored 18 = .ok (.istore_n 2, 1) := by decide +kernel
theorem dX5_mirrored_19 : decode cX5_mirrored 19 = .ok (.iinc 3 1, 3) := by decide +kernel
theorem dX5_mirrored_22 : decode cX5_mirrored 22 = .ok (.goto (-18), 3) := by decide +kernel
theorem dX5_mirrored_25 : decode cX5_mirrored 25 = .ok (.iload_n 2, 1) := by decide +kernel
theorem dX5_mirrored_26 : decode cX5_mirrored 26 = .ok (.ireturn, 1) := by decide +kernel
theorem dX5_isHigh_0 : decode cX5_isHigh 0 = .ok (.iconst 0, 1) := by decide +kernel
theorem dX5_isHigh_1 : decode cX5_isHigh 1 = .ok (.istore_n 2, 1) := by decide +kernel
theorem dX5_isHigh_2 : decode cX5_isHigh 2 = .ok (.iconst 0, 1) := by decide +kernel
theorem dX5_isHigh_3 : decode cX5_isHigh 3 = .ok (.istore_n 3, 1) := by decide +kernel
theorem dX5_isHigh_4 : decode cX5_isHigh 4 = .ok (.iload_n 3, 1) := by decide +kernel
theorem dX5_isHigh_5 : decode cX5_isHigh 5 = .ok (.iconst 2, 1) := by decide +kernel
theorem dX5_isHigh_6 : decode cX5_isHigh 6 = .ok (.iload_n 1, 1) := by decide +kernel
theorem dX5_isHigh_7 : decode cX5_isHigh 7 = .ok (.imul, 1) := by decide +kernel
theorem dX5_isHigh_8 : decode cX5_isHigh 8 = .ok (.if_icmp .ge 45, 3) := by decide +kernel
theorem dX5_isHigh_11 : decode cX5_isHigh 11 = .ok (.aload_n 0, 1) := by decide +kernel
theorem dX5_isHigh_12 : decode cX5_isHigh 12 = .ok (.getfield 22, 3) := by decide +kernel
theorem dX5_isHigh_15 : decode cX5_isHigh 15 = .ok (.iload_n 3, 1) := by decide +kernel
theorem dX5_isHigh_16 : decode cX5_isHigh 16 = .ok (.laload, 1) := by decide +kernel
theorem dX5_isHigh_17 : decode cX5_isHigh 17 = .ok (.lstore 4, 2) := by decide +kernel
theorem dX5_isHigh_19 : decode cX5_isHigh 19 = .ok (.iload_n 2, 1) := by decide +kernel
theorem dX5_isHigh_20 : decode cX5_isHigh 20 = .ok (.ifCond .ne 21, 3) := by decide +kernel
theorem dX5_isHigh_23 : decode cX5_isHigh 23 = .ok (.lload 4, 2) := by decide +kernel
theorem dX5_isHigh_25 : decode cX5_isHigh 25 = .ok (.ldc2_w 77, 3) := by decide +kernel
theorem dX5_isHigh_28 : decode cX5_isHigh 28 = .ok (.lcmp, 1) := by decide +kernel
theorem dX5_isHigh_29 : decode cX5_isHigh 29 = .ok (.ifCond .ge 12, 3) := by decide +kernel
theorem dX5_isHigh_32 : decode cX5_isHigh 32 = .ok (.lload 4, 2) := by decide +kernel
theorem dX5_isHigh_34 : decode cX5_isHigh 34 = .ok (.ldc2_w 79, 3) := by decide +kernel
theorem dX5_isHigh_37 : decode cX5_isHigh 37 = .ok (.lcmp, 1) := by decide +kernel
theorem dX5_isHigh_38 : decode cX5_isHigh 38 = .ok (.ifCond .gt 7, 3) := by decide +kernel
theorem dX5_isHigh_41 : decode cX5_isHigh 41 = .ok (.iconst 1, 1) := by decide +kernel
theorem dX5_isHigh_42 : decode cX5_isHigh 42 = .ok (.goto 4, 3) := by decide +kernel
theorem dX5_isHigh_45 : decode cX5_isHigh 45 = .ok (.iconst 0, 1) := by decide +kernel
theorem dX5_isHigh_46 : decode cX5_isHigh 46 = .ok (.istore_n 2, 1) := by decide +kernel
theorem dX5_isHigh_47 : decode cX5_isHigh 47 = .ok (.iinc 3 1, 3) := by decide +kernel
theorem dX5_isHigh_50 : decode cX5_isHigh 50 = .ok (.goto (-46), 3) := by decide +kernel
theorem dX5_isHigh_53 : decode cX5_isHigh 53 = .ok (.iload_n 2, 1) := by decide +kernel
theorem dX5_isHigh_54 : decode cX5_isHigh 54 = .ok (.ireturn, 1) := by decide +kernel
theorem dX5_lower_0 : decode cX5_lower 0 = .ok (.iconst 0, 1) := by decide +kernel
theorem dX5_lower_1 : decode cX5_lower 1 = .ok (.istore_n 2, 1) := by decide +kernel
theorem dX5_lower_2 : decode cX5_lower 2 = .ok (.iload_n 2, 1) := by decide +kernel
theorem dX5_lower_3 : decode cX5_lower 3 = .ok (.iconst 2, 1) := by decide +kernel
theorem dX5_lower_4 : decode cX5_lower 4 = .ok (.if_icmp .ge 58, 3) := by decide +kernel
theorem dX5_lower_7 : decode cX5_lower 7 = .ok (.aload_n 0, 1) := by decide +kernel
theorem dX5_lower_8 : decode cX5_lower 8 = .ok (.iload_n 1, 1) := by decide +kernel
theorem dX5_lower_9 : decode cX5_lower 9 = .ok (.invokevirtual 81, 3) := by decide +kernel
theorem dX5_lower_12 : decode cX5_lower 12 = .ok (.ifCond .eq 50, 3) := by decide +kernel
theorem dX5_lower_15 : decode cX5_lower 15 = .ok (.iconst 0, 1) := by decide +kernel
theorem dX5_lower_16 : decode cX5_lower 16 = .ok (.istore_n 3, 1) := by decide +kernel
theorem dX5_lower_17 : decode cX5_lower 17 = .ok (.iload_n 3, 1) := by decide +kernel
theorem dX5_lower_18 : decode cX5_lower 18 = .ok (.iconst 2, 1) := by decide +kernel
theorem dX5_lower_19 : decode cX5_lower 19 = .ok (.iload_n 1, 1) := by decide +kernel
theorem dX5_lower_20 : decode cX5_lower 20 = .ok (.imul, 1) := by decide +kernel
theorem dX5_lower_21 : decode cX5_lower 21 = .ok (.if_icmp .ge 25, 3) := by decide +kernel
theorem dX5_lower_24 : decode cX5_lower 24 = .ok (.aload_n 0, 1) := by decide +kernel
theorem dX5_lower_25 : decode cX5_lower 25 = .ok (.getfield 22, 3) := by decide +kernel
theorem dX5_lower_28 : decode cX5_lower 28 = .ok (.iload_n 3, 1) := by decide +kernel
theorem dX5_lower_29 : decode cX5_lower 29 = .ok (.aload_n 0, 1) := by decide +kernel
theorem dX5_lower_30 : decode cX5_lower 30 = .ok (.getfield 22, 3) := by decide +kernel
theorem dX5_lower_33 : decode cX5_lower 33 = .ok (.iload_n 3, 1) := by decide +kernel
theorem dX5_lower_34 : decode cX5_lower 34 = .ok (.laload, 1) := by decide +kernel
theorem dX5_lower_35 : decode cX5_lower 35 = .ok (.iconst 1, 1) := by decide +kernel
theorem dX5_lower_36 : decode cX5_lower 36 = .ok (.invokestatic 37, 3) := by decide +kernel
theorem dX5_lower_39 : decode cX5_lower 39 = .ok (.lastore, 1) := by decide +kernel
theorem dX5_lower_40 : decode cX5_lower 40 = .ok (.iinc 3 1, 3) := by decide +kernel
theorem dX5_lower_43 : decode cX5_lower 43 = .ok (.goto (-26), 3) := by decide +kernel
theorem dX5_lower_46 : decode cX5_lower 46 = .ok (.aload_n 0, 1) := by decide +kernel
theorem dX5_lower_47 : decode cX5_lower 47 = .ok (.dup, 1) := by decide +kernel
theorem dX5_lower_48 : decode cX5_lower 48 = .ok (.getfield 74, 3) := by decide +kernel
theorem dX5_lower_51 : decode cX5_lower 51 = .ok (.iconst 1, 1) := by decide +kernel
theorem dX5_lower_52 : decode cX5_lower 52 = .ok (.iadd, 1) := by decide +kernel
theorem dX5_lower_53 : decode cX5_lower 53 = .ok (.putfield 74, 3) := by decide +kernel
theorem dX5_lower_56 : decode cX5_lower 56 = .ok (.iinc 2 1, 3) := by decide +kernel
theorem dX5_lower_59 : decode cX5_lower 59 = .ok (.goto (-57), 3) := by decide +kernel
theorem dX5_lower_62 : decode cX5_lower 62 = .ok (.return_, 1) := by decide +kernel
theorem dX5_pair_0 : decode cX5_pair 0 = .ok (.iload_n 3, 1) := by decide +kernel
theorem dX5_pair_1 : decode cX5_pair 1 = .ok (.bipush 8, 2) := by decide +kernel
theorem dX5_pair_3 : decode cX5_pair 3 = .ok (.if_icmp .gt 13, 3) := by decide +kernel
theorem dX5_pair_6 : decode cX5_pair 6 = .ok (.bipush 8, 2) := by decide +kernel
theorem dX5_pair_8 : decode cX5_pair 8 = .ok (.iload_n 3, 1) := by decide +kernel
theorem dX5_pair_9 : decode cX5_pair 9 = .ok (.isub, 1) := by decide +kernel
theorem dX5_pair_10 : decode cX5_pair 10 = .ok (.invokestatic 84, 3) := by decide +kernel
theorem dX5_pair_13 : decode cX5_pair 13 = .ok (.goto 11, 3) := by decide +kernel
theorem dX5_pair_16 : decode cX5_pair 16 = .ok (.iload_n 3, 1) := by decide +kernel
theorem dX5_pair_17 : decode cX5_pair 17 = .ok (.bipush 8, 2) := by decide +kernel
theorem dX5_pair_19 : decode cX5_pair 19 = .ok (.isub, 1) := by decide +kernel
theorem dX5_pair_20 : decode cX5_pair 20 = .ok (.invokestatic 84, 3) := by decide +kernel
theorem dX5_pair_23 : decode cX5_pair 23 = .ok (.lneg, 1) := by decide +kernel
theorem dX5_pair_24 : decode cX5_pair 24 = .ok (.lstore 5, 2) := by decide +kernel
theorem dX5_pair_26 : decode cX5_pair 26 = .ok (.iload_n 3, 1) := by decide +kernel
theorem dX5_pair_27 : decode cX5_pair 27 = .ok (.bipush 8, 2) := by decide +kernel
theorem dX5_pair_29 : decode cX5_pair 29 = .ok (.if_icmp .gt 10, 3) := by decide +kernel
theorem dX5_pair_32 : decode cX5_pair 32 = .ok (.iload_n 3, 1) := by decide +kernel
theorem dX5_pair_33 : decode cX5_pair 33 = .ok (.invokestatic 84, 3) := by decide +kernel
theorem dX5_pair_36 : decode cX5_pair 36 = .ok (.goto 10, 3) := by decide +kernel
theorem dX5_pair_39 : decode cX5_pair 39 = .ok (.bipush 16, 2) := by decide +kernel
theorem dX5_pair_41 : decode cX5_pair 41 = .ok (.iload_n 3, 1) := by decide +kernel
theorem dX5_pair_42 : decode cX5_pair 42 = .ok (.isub, 1) := by decide +kernel
theorem dX5_pair_43 : decode cX5_pair 43 = .ok (.invokestatic 84, 3) := by decide +kernel
theorem dX5_pair_46 : decode cX5_pair 46 = .ok (.lstore 7, 2) := by decide +kernel
theorem dX5_pair_48 : decode cX5_pair 48 = .ok (.iload 4, 2) := by decide +kernel
theorem dX5_pair_50 : decode cX5_pair 50 = .ok (.ifCond .eq 9, 3) := by decide +kernel
theorem dX5_pair_53 : decode cX5_pair 53 = .ok (.lload 7, 2) := by decide +kernel
theorem dX5_pair_55 : decode cX5_pair 55 = .ok (.lneg, 1) := by decide +kernel
theorem dX5_pair_56 : decode cX5_pair 56 = .ok (.goto 5, 3) := by decide +kernel
theorem dX5_pair_59 : decode cX5_pair 59 = .ok (.lload 7, 2) := by decide +kernel
theorem dX5_pair_61 : decode cX5_pair 61 = .ok (.lstore 7, 2) := by decide +kernel
theorem dX5_pair_63 : decode cX5_pair 63 = .ok (.aload_n 0, 1) := by decide +kernel
theorem dX5_pair_64 : decode cX5_pair 64 = .ok (.getfield 22, 3) := by decide +kernel
theorem dX5_pair_67 : decode cX5_pair 67 = .ok (.iconst 2, 1) := by decide +kernel
theorem dX5_pair_68 : decode cX5_pair 68 = .ok (.iload_n 2, 1) := by decide +kernel
theorem dX5_pair_69 : decode cX5_pair 69 = .ok (.imul, 1) := by decide +kernel
theorem dX5_pair_70 : decode cX5_pair 70 = .ok (.laload, 1) := by decide +kernel
theorem dX5_pair_71 : decode cX5_pair 71 = .ok (.lstore 9, 2) := by decide +kernel
theorem dX5_pair_73 : decode cX5_pair 73 = .ok (.aload_n 0, 1) := by decide +kernel
theorem dX5_pair_74 : decode cX5_pair 74 = .ok (.getfield 22, 3) := by decide +kernel
theorem dX5_pair_77 : decode cX5_pair 77 = .ok (.iconst 2, 1) := by decide +kernel
theorem dX5_pair_78 : decode cX5_pair 78 = .ok (.iload_n 2, 1) := by decide +kernel
theorem dX5_pair_79 : decode cX5_pair 79 = .ok (.imul, 1) := by decide +kernel
theorem dX5_pair_80 : decode cX5_pair 80 = .ok (.iconst 1, 1) := by decide +kernel
theorem dX5_pair_81 : decode cX5_pair 81 = .ok (.iadd, 1) := by decide +kernel
theorem dX5_pair_82 : decode cX5_pair 82 = .ok (.laload, 1) := by decide +kernel
theorem dX5_pair_83 : decode cX5_pair 83 = .ok (.lstore 11, 2) := by decide +kernel
theorem dX5_pair_85 : decode cX5_pair 85 = .ok (.lload 9, 2) := by decide +kernel
theorem dX5_pair_87 : decode cX5_pair 87 = .ok (.lload 5, 2) := by decide +kernel
theorem dX5_pair_89 : decode cX5_pair 89 = .ok (.lmul, 1) := by decide +kernel
theorem dX5_pair_90 : decode cX5_pair 90 = .ok (.lload 11, 2) := by decide +kernel
theorem dX5_pair_92 : decode cX5_pair 92 = .ok (.lload 7, 2) := by decide +kernel
theorem dX5_pair_94 : decode cX5_pair 94 = .ok (.lmul, 1) := by decide +kernel
theorem dX5_pair_95 : decode cX5_pair 95 = .ok (.ladd, 1) := by decide +kernel
theorem dX5_pair_96 : decode cX5_pair 96 = .ok (.bipush 31, 2) := by decide +kernel
theorem dX5_pair_98 : decode cX5_pair 98 = .ok (.invokestatic 37, 3) := by decide +kernel
theorem dX5_pair_101 : decode cX5_pair 101 = .ok (.lstore 13, 2) := by decide +kernel
theorem dX5_pair_103 : decode cX5_pair 103 = .ok (.lload 11, 2) := by decide +kernel
theorem dX5_pair_105 : decode cX5_pair 105 = .ok (.lload 5, 2) := by decide +kernel
theorem dX5_pair_107 : decode cX5_pair 107 = .ok (.lmul, 1) := by decide +kernel
theorem dX5_pair_108 : decode cX5_pair 108 = .ok (.lload 9, 2) := by decide +kernel
theorem dX5_pair_110 : decode cX5_pair 110 = .ok (.lload 7, 2) := by decide +kernel
theorem dX5_pair_112 : decode cX5_pair 112 = .ok (.lmul, 1) := by decide +kernel
theorem dX5_pair_113 : decode cX5_pair 113 = .ok (.lsub, 1) := by decide +kernel
theorem dX5_pair_114 : decode cX5_pair 114 = .ok (.bipush 31, 2) := by decide +kernel
theorem dX5_pair_116 : decode cX5_pair 116 = .ok (.invokestatic 37, 3) := by decide +kernel
theorem dX5_pair_119 : decode cX5_pair 119 = .ok (.lstore 15, 2) := by decide +kernel
theorem dX5_pair_121 : decode cX5_pair 121 = .ok (.aload_n 0, 1) := by decide +kernel
theorem dX5_pair_122 : decode cX5_pair 122 = .ok (.getfield 22, 3) := by decide +kernel
theorem dX5_pair_125 : decode cX5_pair 125 = .ok (.iconst 2, 1) := by decide +kernel
theorem dX5_pair_126 : decode cX5_pair 126 = .ok (.iload_n 2, 1) := by decide +kernel
theorem dX5_pair_127 : decode cX5_pair 127 = .ok (.imul, 1) := by decide +kernel
theorem dX5_pair_128 : decode cX5_pair 128 = .ok (.aload_n 0, 1) := by decide +kernel
theorem dX5_pair_129 : decode cX5_pair 129 = .ok (.getfield 22, 3) := by decide +kernel
theorem dX5_pair_132 : decode cX5_pair 132 = .ok (.iconst 2, 1) := by decide +kernel
theorem dX5_pair_133 : decode cX5_pair 133 = .ok (.iload_n 1, 1) := by decide +kernel
theorem dX5_pair_134 : decode cX5_pair 134 = .ok (.imul, 1) := by decide +kernel
theorem dX5_pair_135 : decode cX5_pair 135 = .ok (.laload, 1) := by decide +kernel
theorem dX5_pair_136 : decode cX5_pair 136 = .ok (.lload 13, 2) := by decide +kernel
theorem dX5_pair_138 : decode cX5_pair 138 = .ok (.lsub, 1) := by decide +kernel
theorem dX5_pair_139 : decode cX5_pair 139 = .ok (.ldc2_w 49, 3) := by decide +kernel
theorem dX5_pair_142 : decode cX5_pair 142 = .ok (.invokestatic 33, 3) := by decide +kernel
theorem dX5_pair_145 : decode cX5_pair 145 = .ok (.i2l, 1) := by decide +kernel
theorem dX5_pair_146 : decode cX5_pair 146 = .ok (.lastore, 1) := by decide +kernel
theorem dX5_pair_147 : decode cX5_pair 147 = .ok (.aload_n 0, 1) := by decide +kernel
theorem dX5_pair_148 : decode cX5_pair 148 = .ok (.getfield 22, 3) := by decide +kernel
theorem dX5_pair_151 : decode cX5_pair 151 = .ok (.iconst 2, 1) := by decide +kernel
theorem dX5_pair_152 : decode cX5_pair 152 = .ok (.iload_n 2, 1) := by decide +kernel
theorem dX5_pair_153 : decode cX5_pair 153 = .ok (.imul, 1) := by decide +kernel
theorem dX5_pair_154 : decode cX5_pair 154 = .ok (.iconst 1, 1) := by decide +kernel
theorem dX5_pair_155 : decode cX5_pair 155 = .ok (.iadd, 1) := by decide +kernel
theorem dX5_pair_156 : decode cX5_pair 156 = .ok (.aload_n 0, 1) := by decide +kernel
theorem dX5_pair_157 : decode cX5_pair 157 = .ok (.getfield 22, 3) := by decide +kernel
theorem dX5_pair_160 : decode cX5_pair 160 = .ok (.iconst 2, 1) := by decide +kernel
theorem dX5_pair_161 : decode cX5_pair 161 = .ok (.iload_n 1, 1) := by decide +kernel
theorem dX5_pair_162 : decode cX5_pair 162 = .ok (.imul, 1) := by decide +kernel
theorem dX5_pair_163 : decode cX5_pair 163 = .ok (.iconst 1, 1) := by decide +kernel
theorem dX5_pair_164 : decode cX5_pair 164 = .ok (.iadd, 1) := by decide +kernel
theorem dX5_pair_165 : decode cX5_pair 165 = .ok (.laload, 1) := by decide +kernel
theorem dX5_pair_166 : decode cX5_pair 166 = .ok (.lload 15, 2) := by decide +kernel
theorem dX5_pair_168 : decode cX5_pair 168 = .ok (.lsub, 1) := by decide +kernel
theorem dX5_pair_169 : decode cX5_pair 169 = .ok (.ldc2_w 49, 3) := by decide +kernel
theorem dX5_pair_172 : decode cX5_pair 172 = .ok (.invokestatic 33, 3) := by decide +kernel
theorem dX5_pair_175 : decode cX5_pair 175 = .ok (.i2l, 1) := by decide +kernel
theorem dX5_pair_176 : decode cX5_pair 176 = .ok (.lastore, 1) := by decide +kernel
theorem dX5_pair_177 : decode cX5_pair 177 = .ok (.aload_n 0, 1) := by decide +kernel
theorem dX5_pair_178 : decode cX5_pair 178 = .ok (.getfield 22, 3) := by decide +kernel
theorem dX5_pair_181 : decode cX5_pair 181 = .ok (.iconst 2, 1) := by decide +kernel
theorem dX5_pair_182 : decode cX5_pair 182 = .ok (.iload_n 1, 1) := by decide +kernel
theorem dX5_pair_183 : decode cX5_pair 183 = .ok (.imul, 1) := by decide +kernel
theorem dX5_pair_184 : decode cX5_pair 184 = .ok (.aload_n 0, 1) := by decide +kernel
theorem dX5_pair_185 : decode cX5_pair 185 = .ok (.getfield 22, 3) := by decide +kernel
theorem dX5_pair_188 : decode cX5_pair 188 = .ok (.iconst 2, 1) := by decide +kernel
theorem dX5_pair_189 : decode cX5_pair 189 = .ok (.iload_n 1, 1) := by decide +kernel
theorem dX5_pair_190 : decode cX5_pair 190 = .ok (.imul, 1) := by decide +kernel
theorem dX5_pair_191 : decode cX5_pair 191 = .ok (.laload, 1) := by decide +kernel
theorem dX5_pair_192 : decode cX5_pair 192 = .ok (.lload 13, 2) := by decide +kernel
theorem dX5_pair_194 : decode cX5_pair 194 = .ok (.ladd, 1) := by decide +kernel
theorem dX5_pair_195 : decode cX5_pair 195 = .ok (.ldc2_w 49, 3) := by decide +kernel
theorem dX5_pair_198 : decode cX5_pair 198 = .ok (.invokestatic 33, 3) := by decide +kernel
theorem dX5_pair_201 : decode cX5_pair 201 = .ok (.i2l, 1) := by decide +kernel
theorem dX5_pair_202 : decode cX5_pair 202 = .ok (.lastore, 1) := by decide +kernel
theorem dX5_pair_203 : decode cX5_pair 203 = .ok (.aload_n 0, 1) := by decide +kernel
theorem dX5_pair_204 : decode cX5_pair 204 = .ok (.getfield 22, 3) := by decide +kernel
theorem dX5_pair_207 : decode cX5_pair 207 = .ok (.iconst 2, 1) := by decide +kernel
theorem dX5_pair_208 : decode cX5_pair 208 = .ok (.iload_n 1, 1) := by decide +kernel
theorem dX5_pair_209 : decode cX5_pair 209 = .ok (.imul, 1) := by decide +kernel
theorem dX5_pair_210 : decode cX5_pair 210 = .ok (.iconst 1, 1) := by decide +kernel
theorem dX5_pair_211 : decode cX5_pair 211 = .ok (.iadd, 1) := by decide +kernel
theorem dX5_pair_212 : decode cX5_pair 212 = .ok (.aload_n 0, 1) := by decide +kernel
theorem dX5_pair_213 : decode cX5_pair 213 = .ok (.getfield 22, 3) := by decide +kernel
theorem dX5_pair_216 : decode cX5_pair 216 = .ok (.iconst 2, 1) := by decide +kernel
theorem dX5_pair_217 : decode cX5_pair 217 = .ok (.iload_n 1, 1) := by decide +kernel
theorem dX5_pair_218 : decode cX5_pair 218 = .ok (.imul, 1) := by decide +kernel
theorem dX5_pair_219 : decode cX5_pair 219 = .ok (.iconst 1, 1) := by decide +kernel
theorem dX5_pair_220 : decode cX5_pair 220 = .ok (.iadd, 1) := by decide +kernel
theorem dX5_pair_221 : decode cX5_pair 221 = .ok (.laload, 1) := by decide +kernel
theorem dX5_pair_222 : decode cX5_pair 222 = .ok (.lload 15, 2) := by decide +kernel
theorem dX5_pair_224 : decode cX5_pair 224 = .ok (.ladd, 1) := by decide +kernel
theorem dX5_pair_225 : decode cX5_pair 225 = .ok (.ldc2_w 49, 3) := by decide +kernel
theorem dX5_pair_228 : decode cX5_pair 228 = .ok (.invokestatic 33, 3) := by decide +kernel
theorem dX5_pair_231 : decode cX5_pair 231 = .ok (.i2l, 1) := by decide +kernel
theorem dX5_pair_232 : decode cX5_pair 232 = .ok (.lastore, 1) := by decide +kernel
theorem dX5_pair_233 : decode cX5_pair 233 = .ok (.return_, 1) := by decide +kernel
theorem dX5_transform_0 : decode cX5_transform 0 = .ok (.aload_n 0, 1) := by decide +kernel
theorem dX5_transform_1 : decode cX5_transform 1 = .ok (.iload_n 1, 1) := by decide +kernel
theorem dX5_transform_2 : decode cX5_transform 2 = .ok (.iconst 0, 1) := by decide +kernel
theorem dX5_transform_3 : decode cX5_transform 3 = .ok (.iconst 5, 1) := by decide +kernel
theorem dX5_transform_4 : decode cX5_transform 4 = .ok (.invokestatic 41, 3) := by decide +kernel
theorem dX5_transform_7 : decode cX5_transform 7 = .ok (.ifCond .eq 7, 3) := by decide +kernel
theorem dX5_transform_10 : decode cX5_transform 10 = .ok (.iconst 0, 1) := by decide +kernel
theorem dX5_transform_11 : decode cX5_transform 11 = .ok (.goto 4, 3) := by decide +kernel
theorem dX5_transform_14 : decode cX5_transform 14 = .ok (.iconst 1, 1) := by decide +kernel
theorem dX5_transform_15 : decode cX5_transform 15 = .ok (.invokevirtual 45, 3) := by decide +kernel
theorem dX5_transform_18 : decode cX5_transform 18 = .ok (.ifCond .eq 5, 3) := by decide +kernel
theorem dX5_transform_21 : decode cX5_transform 21 = .ok (.iconst 0, 1) := by decide +kernel
theorem dX5_transform_22 : decode cX5_transform 22 = .ok (.ireturn, 1) := by decide +kernel
theorem dX5_transform_23 : decode cX5_transform 23 = .ok (.iconst 1, 1) := by decide +kernel
theorem dX5_transform_24 : decode cX5_transform 24 = .ok (.iload_n 1, 1) := by decide +kernel
theorem dX5_transform_25 : decode cX5_transform 25 = .ok (.ishl, 1) := by decide +kernel
theorem dX5_transform_26 : decode cX5_transform 26 = .ok (.istore_n 3, 1) := by decide +kernel
theorem dX5_transform_27 : decode cX5_transform 27 = .ok (.iconst 0, 1) := by decide +kernel
theorem dX5_transform_28 : decode cX5_transform 28 = .ok (.istore 4, 2) := by decide +kernel
theorem dX5_transform_30 : decode cX5_transform 30 = .ok (.iload 4, 2) := by decide +kernel
theorem dX5_transform_32 : decode cX5_transform 32 = .ok (.iload_n 3, 1) := by decide +kernel
theorem dX5_transform_33 : decode cX5_transform 33 = .ok (.if_icmp .ge 57, 3) := by decide +kernel
theorem dX5_transform_36 : decode cX5_transform 36 = .ok (.iload 4, 2) := by decide +kernel
theorem dX5_transform_38 : decode cX5_transform 38 = .ok (.iload_n 1, 1) := by decide +kernel
theorem dX5_transform_39 : decode cX5_transform 39 = .ok (.invokestatic 88, 3) := by decide +kernel
theorem dX5_transform_42 : decode cX5_transform 42 = .ok (.istore 5, 2) := by decide +kernel
theorem dX5_transform_44 : decode cX5_transform 44 = .ok (.aload_n 0, 1) := by decide +kernel
theorem dX5_transform_45 : decode cX5_transform 45 = .ok (.getfield 26, 3) := by decide +kernel
theorem dX5_transform_48 : decode cX5_transform 48 = .ok (.iconst 2, 1) := by decide +kernel
theorem dX5_transform_49 : decode cX5_transform 49 = .ok (.iload 4, 2) := by decide +kernel
theorem dX5_transform_51 : decode cX5_transform 51 = .ok (.imul, 1) := by decide +kernel
theorem dX5_transform_52 : decode cX5_transform 52 = .ok (.aload_n 0, 1) := by decide +kernel
theorem dX5_transform_53 : decode cX5_transform 53 = .ok (.getfield 22, 3) := by decide +kernel
theorem dX5_transform_56 : decode cX5_transform 56 = .ok (.iconst 2, 1) := by decide +kernel
theorem dX5_transform_57 : decode cX5_transform 57 = .ok (.iload 5, 2) := by decide +kernel
theorem dX5_transform_59 : decode cX5_transform 59 = .ok (.imul, 1) := by decide +kernel
theorem dX5_transform_60 : decode cX5_transform 60 = .ok (.laload, 1) := by decide +kernel
theorem dX5_transform_61 : decode cX5_transform 61 = .ok (.lastore, 1) := by decide +kernel
theorem dX5_transform_62 : decode cX5_transform 62 = .ok (.aload_n 0, 1) := by decide +kernel
theorem dX5_transform_63 : decode cX5_transform 63 = .ok (.getfield 26, 3) := by decide +kernel
theorem dX5_transform_66 : decode cX5_transform 66 = .ok (.iconst 2, 1) := by decide +kernel
theorem dX5_transform_67 : decode cX5_transform 67 = .ok (.iload 4, 2) := by decide +kernel
theorem dX5_transform_69 : decode cX5_transform 69 = .ok (.imul, 1) := by decide +kernel
theorem dX5_transform_70 : decode cX5_transform 70 = .ok (.iconst 1, 1) := by decide +kernel
theorem dX5_transform_71 : decode cX5_transform 71 = .ok (.iadd, 1) := by decide +kernel
theorem dX5_transform_72 : decode cX5_transform 72 = .ok (.aload_n 0, 1) := by decide +kernel
theorem dX5_transform_73 : decode cX5_transform 73 = .ok (.getfield 22, 3) := by decide +kernel
theorem dX5_transform_76 : decode cX5_transform 76 = .ok (.iconst 2, 1) := by decide +kernel
theorem dX5_transform_77 : decode cX5_transform 77 = .ok (.iload 5, 2) := by decide +kernel
theorem dX5_transform_79 : decode cX5_transform 79 = .ok (.imul, 1) := by decide +kernel
theorem dX5_transform_80 : decode cX5_transform 80 = .ok (.iconst 1, 1) := by decide +kernel
theorem dX5_transform_81 : decode cX5_transform 81 = .ok (.iadd, 1) := by decide +kernel
theorem dX5_transform_82 : decode cX5_transform 82 = .ok (.laload, 1) := by decide +kernel
theorem dX5_transform_83 : decode cX5_transform 83 = .ok (.lastore, 1) := by decide +kernel
theorem dX5_transform_84 : decode cX5_transform 84 = .ok (.iinc 4 1, 3) := by decide +kernel
theorem dX5_transform_87 : decode cX5_transform 87 = .ok (.goto (-57), 3) := by decide +kernel
theorem dX5_transform_90 : decode cX5_transform 90 = .ok (.iconst 0, 1) := by decide +kernel
theorem dX5_transform_91 : decode cX5_transform 91 = .ok (.istore 4, 2) := by decide +kernel
theorem dX5_transform_93 : decode cX5_transform 93 = .ok (.iload 4, 2) := by decide +kernel
theorem dX5_transform_95 : decode cX5_transform 95 = .ok (.iconst 2, 1) := by decide +kernel
theorem dX5_transform_96 : decode cX5_transform 96 = .ok (.iload_n 3, 1) := by decide +kernel
theorem dX5_transform_97 : decode cX5_transform 97 = .ok (.imul, 1) := by decide +kernel
theorem dX5_transform_98 : decode cX5_transform 98 = .ok (.if_icmp .ge 23, 3) := by decide +kernel
theorem dX5_transform_101 : decode cX5_transform 101 = .ok (.aload_n 0, 1) := by decide +kernel
theorem dX5_transform_102 : decode cX5_transform 102 = .ok (.getfield 22, 3) := by decide +kernel
theorem dX5_transform_105 : decode cX5_transform 105 = .ok (.iload 4, 2) := by decide +kernel
theorem dX5_transform_107 : decode cX5_transform 107 = .ok (.aload_n 0, 1) := by decide +kernel
theorem dX5_transform_108 : decode cX5_transform 108 = .ok (.getfield 26, 3) := by decide +kernel
theorem dX5_transform_111 : decode cX5_transform 111 = .ok (.iload 4, 2) := by decide +kernel
theorem dX5_transform_113 : decode cX5_transform 113 = .ok (.laload, 1) := by decide +kernel
theorem dX5_transform_114 : decode cX5_transform 114 = .ok (.lastore, 1) := by decide +kernel
theorem dX5_transform_115 : decode cX5_transform 115 = .ok (.iinc 4 1, 3) := by decide +kernel
theorem dX5_transform_118 : decode cX5_transform 118 = .ok (.goto (-25), 3) := by decide +kernel
theorem dX5_transform_121 : decode cX5_transform 121 = .ok (.iconst 1, 1) := by decide +kernel
theorem dX5_transform_122 : decode cX5_transform 122 = .ok (.istore 4, 2) := by decide +kernel
theorem dX5_transform_124 : decode cX5_transform 124 = .ok (.iload 4, 2) := by decide +kernel
theorem dX5_transform_126 : decode cX5_transform 126 = .ok (.iload_n 3, 1) := by decide +kernel
theorem dX5_transform_127 : decode cX5_transform 127 = .ok (.if_icmp .ge 65, 3) := by decide +kernel
theorem dX5_transform_130 : decode cX5_transform 130 = .ok (.aload_n 0, 1) := by decide +kernel
theorem dX5_transform_131 : decode cX5_transform 131 = .ok (.iload_n 3, 1) := by decide +kernel
theorem dX5_transform_132 : decode cX5_transform 132 = .ok (.invokevirtual 92, 3) := by decide +kernel
theorem dX5_transform_135 : decode cX5_transform 135 = .ok (.iconst 0, 1) := by decide +kernel
theorem dX5_transform_136 : decode cX5_transform 136 = .ok (.istore 5, 2) := by decide +kernel
theorem dX5_transform_138 : decode cX5_transform 138 = .ok (.iload 5, 2) := by decide +kernel
theorem dX5_transform_140 : decode cX5_transform 140 = .ok (.iload_n 3, 1) := by decide +kernel
theorem dX5_transform_141 : decode cX5_transform 141 = .ok (.if_icmp .ge 42, 3) := by decide +kernel
theorem dX5_transform_144 : decode cX5_transform 144 = .ok (.iload 5, 2) := by decide +kernel
theorem dX5_transform_146 : decode cX5_transform 146 = .ok (.iload 4, 2) := by decide +kernel
theorem dX5_transform_148 : decode cX5_transform 148 = .ok (.idiv, 1) := by decide +kernel
theorem dX5_transform_149 : decode cX5_transform 149 = .ok (.iconst 2, 1) := by decide +kernel
theorem dX5_transform_150 : decode cX5_transform 150 = .ok (.irem, 1) := by decide +kernel
theorem dX5_transform_151 : decode cX5_transform 151 = .ok (.ifCond .ne 26, 3) := by decide +kernel
theorem dX5_transform_154 : decode cX5_transform 154 = .ok (.aload_n 0, 1) := by decide +kernel
theorem dX5_transform_155 : decode cX5_transform 155 = .ok (.iload 5, 2) := by decide +kernel
theorem dX5_transform_157 : decode cX5_transform 157 = .ok (.iload 5, 2) := by decide +kernel
theorem dX5_transform_159 : decode cX5_transform 159 = .ok (.iload 4, 2) := by decide +kernel
theorem dX5_transform_161 : decode cX5_transform 161 = .ok (.iadd, 1) := by decide +kernel
theorem dX5_transform_162 : decode cX5_transform 162 = .ok (.iload 5, 2) := by decide +kernel
theorem dX5_transform_164 : decode cX5_transform 164 = .ok (.iload 4, 2) := by decide +kernel
theorem dX5_transform_166 : decode cX5_transform 166 = .ok (.irem, 1) := by decide +kernel
theorem dX5_transform_167 : decode cX5_transform 167 = .ok (.bipush 16, 2) := by decide +kernel
theorem dX5_transform_169 : decode cX5_transform 169 = .ok (.imul, 1) := by decide +kernel
theorem dX5_transform_170 : decode cX5_transform 170 = .ok (.iload 4, 2) := by decide +kernel
theorem dX5_transform_172 : decode cX5_transform 172 = .ok (.idiv, 1) := by decide +kernel
theorem dX5_transform_173 : decode cX5_transform 173 = .ok (.iload_n 2, 1) := by decide +kernel
theorem dX5_transform_174 : decode cX5_transform 174 = .ok (.invokevirtual 96, 3) := by decide +kernel
theorem dX5_transform_177 : decode cX5_transform 177 = .ok (.iinc 5 1, 3) := by decide +kernel
theorem dX5_transform_180 : decode cX5_transform 180 = .ok (.goto (-42), 3) := by decide +kernel
theorem dX5_transform_183 : decode cX5_transform 183 = .ok (.iconst 2, 1) := by decide +kernel
theorem dX5_transform_184 : decode cX5_transform 184 = .ok (.iload 4, 2) := by decide +kernel
theorem dX5_transform_186 : decode cX5_transform 186 = .ok (.imul, 1) := by decide +kernel
theorem dX5_transform_187 : decode cX5_transform 187 = .ok (.istore 4, 2) := by decide +kernel
theorem dX5_transform_189 : decode cX5_transform 189 = .ok (.goto (-65), 3) := by decide +kernel
theorem dX5_transform_192 : decode cX5_transform 192 = .ok (.aload_n 0, 1) := by decide +kernel
theorem dX5_transform_193 : decode cX5_transform 193 = .ok (.getfield 74, 3) := by decide +kernel
theorem dX5_transform_196 : decode cX5_transform 196 = .ok (.ireturn, 1) := by decide +kernel
theorem dX5_get_0 : decode cX5_get 0 = .ok (.aload_n 0, 1) := by decide +kernel
theorem dX5_get_1 : decode cX5_get 1 = .ok (.iload_n 1, 1) := by decide +kernel
theorem dX5_get_2 : decode cX5_get 2 = .ok (.iconst 0, 1) := by decide +kernel
theorem dX5_get_3 : decode cX5_get 3 = .ok (.bipush 31, 2) := by decide +kernel
theorem dX5_get_5 : decode cX5_get 5 = .ok (.invokestatic 41, 3) := by decide +kernel
theorem dX5_get_8 : decode cX5_get 8 = .ok (.ifCond .eq 7, 3) := by decide +kernel
theorem dX5_get_11 : decode cX5_get 11 = .ok (.iconst 0, 1) := by decide +kernel
theorem dX5_get_12 : decode cX5_get 12 = .ok (.goto 4, 3) := by decide +kernel
theorem dX5_get_15 : decode cX5_get 15 = .ok (.iconst 1, 1) := by decide +kernel
theorem dX5_get_16 : decode cX5_get 16 = .ok (.invokevirtual 45, 3) := by decide +kernel
theorem dX5_get_19 : decode cX5_get 19 = .ok (.ifCond .eq 5, 3) := by decide +kernel
theorem dX5_get_22 : decode cX5_get 22 = .ok (.iconst 0, 1) := by decide +kernel
theorem dX5_get_23 : decode cX5_get 23 = .ok (.ireturn, 1) := by decide +kernel
theorem dX5_get_24 : decode cX5_get 24 = .ok (.aload_n 0, 1) := by decide +kernel
theorem dX5_get_25 : decode cX5_get 25 = .ok (.getfield 22, 3) := by decide +kernel
theorem dX5_get_28 : decode cX5_get 28 = .ok (.iload_n 2, 1) := by decide +kernel
theorem dX5_get_29 : decode cX5_get 29 = .ok (.ifCond .eq 11, 3) := by decide +kernel
theorem dX5_get_32 : decode cX5_get 32 = .ok (.iconst 2, 1) := by decide +kernel
theorem dX5_get_33 : decode cX5_get 33 = .ok (.iload_n 1, 1) := by decide +kernel
theorem dX5_get_34 : decode cX5_get 34 = .ok (.imul, 1) := by decide +kernel
theorem dX5_get_35 : decode cX5_get 35 = .ok (.iconst 1, 1) := by decide +kernel
theorem dX5_get_36 : decode cX5_get 36 = .ok (.iadd, 1) := by decide +kernel
theorem dX5_get_37 : decode cX5_get 37 = .ok (.goto 6, 3) := by decide +kernel
theorem dX5_get_40 : decode cX5_get 40 = .ok (.iconst 2, 1) := by decide +kernel
theorem dX5_get_41 : decode cX5_get 41 = .ok (.iload_n 1, 1) := by decide +kernel
theorem dX5_get_42 : decode cX5_get 42 = .ok (.imul, 1) := by decide +kernel
theorem dX5_get_43 : decode cX5_get 43 = .ok (.laload, 1) := by decide +kernel
theorem dX5_get_44 : decode cX5_get 44 = .ok (.l2i, 1) := by decide +kernel
theorem dX5_get_45 : decode cX5_get 45 = .ok (.ireturn, 1) := by decide +kernel
theorem dX5_arc_0 : decode cX5_arc 0 = .ok (.iload_n 0, 1) := by decide +kernel
theorem dX5_arc_1 : decode cX5_arc 1 = .ok (.tableswitch 135 0 14 #[75, 79, 83, 87, 91, 95, 99, 103, 107, 111, 115, 119, 123, 127, 131], 75) := by decide +kernel
theorem dX5_arc_76 : decode cX5_arc 76 = .ok (.ldc2_w 77, 3) := by decide +kernel
theorem dX5_arc_79 : decode cX5_arc 79 = .ok (.lreturn, 1) := by decide +kernel
theorem dX5_arc_80 : decode cX5_arc 80 = .ok (.ldc2_w 100, 3) := by decide +kernel
theorem dX5_arc_83 : decode cX5_arc 83 = .ok (.lreturn, 1) := by decide +kernel
theorem dX5_arc_84 : decode cX5_arc 84 = .ok (.ldc2_w 102, 3) := by decide +kernel
theorem dX5_arc_87 : decode cX5_arc 87 = .ok (.lreturn, 1) := by decide +kernel
theorem dX5_arc_88 : decode cX5_arc 88 = .ok (.ldc2_w 104, 3) := by decide +kernel
theorem dX5_arc_91 : decode cX5_arc 91 = .ok (.lreturn, 1) := by decide +kernel
theorem dX5_arc_92 : decode cX5_arc 92 = .ok (.ldc2_w 106, 3) := by decide +kernel
theorem dX5_arc_95 : decode cX5_arc 95 = .ok (.lreturn, 1) := by decide +kernel
theorem dX5_arc_96 : decode cX5_arc 96 = .ok (.ldc2_w 108, 3) := by decide +kernel
theorem dX5_arc_99 : decode cX5_arc 99 = .ok (.lreturn, 1) := by decide +kernel
theorem dX5_arc_100 : decode cX5_arc 100 = .ok (.ldc2_w 110, 3) := by decide +kernel
theorem dX5_arc_103 : decode cX5_arc 103 = .ok (.lreturn, 1) := by decide +kernel
theorem dX5_arc_104 : decode cX5_arc 104 = .ok (.ldc2_w 112, 3) := by decide +kernel
theorem dX5_arc_107 : decode cX5_arc 107 = .ok (.lreturn, 1) := by decide +kernel
theorem dX5_arc_108 : decode cX5_arc 108 = .ok (.ldc2_w 114, 3) := by decide +kernel
theorem dX5_arc_111 : decode cX5_arc 111 = .ok (.lreturn, 1) := by decide +kernel
theorem dX5_arc_112 : decode cX5_arc 112 = .ok (.ldc2_w 116, 3) := by decide +kernel
theorem dX5_arc_115 : decode cX5_arc 115 = .ok (.lreturn, 1) := by decide +kernel
theorem dX5_arc_116 : decode cX5_arc 116 = .ok (.ldc2_w 118, 3) := by decide +kernel
theorem dX5_arc_119 : decode cX5_arc 119 = .ok (.lreturn, 1) := by decide +kernel
theorem dX5_arc_120 : decode cX5_arc 120 = .ok (.ldc2_w 120, 3) := by decide +kernel
theorem dX5_arc_123 : decode cX5_arc 123 = .ok (.lreturn, 1) := by decide +kernel
theorem dX5_arc_124 : decode cX5_arc 124 = .ok (.ldc2_w 122, 3) := by decide +kernel
theorem dX5_arc_127 : decode cX5_arc 127 = .ok (.lreturn, 1) := by decide +kernel
theorem dX5_arc_128 : decode cX5_arc 128 = .ok (.ldc2_w 124, 3) := by decide +kernel
theorem dX5_arc_131 : decode cX5_arc 131 = .ok (.lreturn, 1) := by decide +kernel
theorem dX5_arc_132 : decode cX5_arc 132 = .ok (.ldc2_w 126, 3) := by decide +kernel
theorem dX5_arc_135 : decode cX5_arc 135 = .ok (.lreturn, 1) := by decide +kernel
theorem dX5_arc_136 : decode cX5_arc 136 = .ok (.iload_n 0, 1) := by decide +kernel
theorem dX5_arc_137 : decode cX5_arc 137 = .ok (.invokestatic 128, 3) := by decide +kernel
theorem dX5_arc_140 : decode cX5_arc 140 = .ok (.lreturn, 1) := by decide +kernel
theorem dX5_smaller_0 : decode cX5_smaller 0 = .ok (.iload_n 0, 1) := by decide +kernel
theorem dX5_smaller_1 : decode cX5_smaller 1 = .ok (.tableswitch 127 15 28 #[71, 75, 79, 83, 87, 91, 95, 99, 103, 107, 111, 115, 119, 123], 71) := by decide +kernel
theorem dX5_smaller_72 : decode cX5_smaller 72 = .ok (.ldc2_w 131, 3) := by decide +kernel
theorem dX5_smaller_75 : decode cX5_smaller 75 = .ok (.lreturn, 1) := by decide +kernel
theorem dX5_smaller_76 : decode cX5_smaller 76 = .ok (.ldc2_w 133, 3) := by decide +kernel
theorem dX5_smaller_79 : decode cX5_smaller 79 = .ok (.lreturn, 1) := by decide +kernel
theorem dX5_smaller_80 : decode cX5_smaller 80 = .ok (.ldc2_w 135, 3) := by decide +kernel
theorem dX5_smaller_83 : decode cX5_smaller 83 = .ok (.lreturn, 1) := by decide +kernel
theorem dX5_smaller_84 : decode cX5_smaller 84 = .ok (.ldc2_w 137, 3) := by decide +kernel
theorem dX5_smaller_87 : decode cX5_smaller 87 = .ok (.lreturn, 1) := by decide +kernel
theorem dX5_smaller_88 : decode cX5_smaller 88 = .ok (.ldc2_w 139, 3) := by decide +kernel
theorem dX5_smaller_91 : decode cX5_smaller 91 = .ok (.lreturn, 1) := by decide +kernel
theorem dX5_smaller_92 : decode cX5_smaller 92 = .ok (.ldc2_w 141, 3) := by decide +kernel
theorem dX5_smaller_95 : decode cX5_smaller 95 = .ok (.lreturn, 1) := by decide +kernel
theorem dX5_smaller_96 : decode cX5_smaller 96 = .ok (.ldc2_w 143, 3) := by decide +kernel
theorem dX5_smaller_99 : decode cX5_smaller 99 = .ok (.lreturn, 1) := by decide +kernel
theorem dX5_smaller_100 : decode cX5_smaller 100 = .ok (.ldc2_w 145, 3) := by decide +kernel
theorem dX5_smaller_103 : decode cX5_smaller 103 = .ok (.lreturn, 1) := by decide +kernel
theorem dX5_smaller_104 : decode cX5_smaller 104 = .ok (.ldc2_w 147, 3) := by decide +kernel
theorem dX5_smaller_107 : decode cX5_smaller 107 = .ok (.lreturn, 1) := by decide +kernel
theorem dX5_smaller_108 : decode cX5_smaller 108 = .ok (.ldc2_w 149, 3) := by decide +kernel
theorem dX5_smaller_111 : decode cX5_smaller 111 = .ok (.lreturn, 1) := by decide +kernel
theorem dX5_smaller_112 : decode cX5_smaller 112 = .ok (.ldc2_w 151, 3) := by decide +kernel
theorem dX5_smaller_115 : decode cX5_smaller 115 = .ok (.lreturn, 1) := by decide +kernel
theorem dX5_smaller_116 : decode cX5_smaller 116 = .ok (.ldc2_w 153, 3) := by decide +kernel
theorem dX5_smaller_119 : decode cX5_smaller 119 = .ok (.lreturn, 1) := by decide +kernel
theorem dX5_smaller_120 : decode cX5_smaller 120 = .ok (.ldc2_w 155, 3) := by decide +kernel
theorem dX5_smaller_123 : decode cX5_smaller 123 = .ok (.lreturn, 1) := by decide +kernel
theorem dX5_smaller_124 : decode cX5_smaller 124 = .ok (.ldc2_w 157, 3) := by decide +kernel
theorem dX5_smaller_127 : decode cX5_smaller 127 = .ok (.lreturn, 1) := by decide +kernel
theorem dX5_smaller_128 : decode cX5_smaller 128 = .ok (.lconst 1, 1) := by decide +kernel
theorem dX5_smaller_129 : decode cX5_smaller 129 = .ok (.lreturn, 1) := by decide +kernel
theorem dX5_wave_0 : decode cX5_wave 0 = .ok (.aload_n 0, 1) := by decide +kernel
theorem dX5_wave_1 : decode cX5_wave 1 = .ok (.iconst 0, 1) := by decide +kernel
theorem dX5_wave_2 : decode cX5_wave 2 = .ok (.putfield 29, 3) := by decide +kernel
theorem dX5_wave_5 : decode cX5_wave 5 = .ok (.iload_n 1, 1) := by decide +kernel
theorem dX5_wave_6 : decode cX5_wave 6 = .ok (.i2l, 1) := by decide +kernel
theorem dX5_wave_7 : decode cX5_wave 7 = .ok (.lstore_n 3, 1) := by decide +kernel
theorem dX5_wave_8 : decode cX5_wave 8 = .ok (.lload_n 3, 1) := by decide +kernel
theorem dX5_wave_9 : decode cX5_wave 9 = .ok (.ldc2_w 159, 3) := by decide +kernel
theorem dX5_wave_12 : decode cX5_wave 12 = .ok (.lcmp, 1) := by decide +kernel
theorem dX5_wave_13 : decode cX5_wave 13 = .ok (.ifCond .gt 11, 3) := by decide +kernel
theorem dX5_wave_16 : decode cX5_wave 16 = .ok (.lload_n 3, 1) := by decide +kernel
theorem dX5_wave_17 : decode cX5_wave 17 = .ok (.ldc2_w 161, 3) := by decide +kernel
theorem dX5_wave_20 : decode cX5_wave 20 = .ok (.lcmp, 1) := by decide +kernel
theorem dX5_wave_21 : decode cX5_wave 21 = .ok (.ifCond .ge 7, 3) := by decide +kernel
theorem dX5_wave_24 : decode cX5_wave 24 = .ok (.iconst 1, 1) := by decide +kernel
theorem dX5_wave_25 : decode cX5_wave 25 = .ok (.goto 4, 3) := by decide +kernel
theorem dX5_wave_28 : decode cX5_wave 28 = .ok (.iconst 0, 1) := by decide +kernel
theorem dX5_wave_29 : decode cX5_wave 29 = .ok (.istore 5, 2) := by decide +kernel
theorem dX5_wave_31 : decode cX5_wave 31 = .ok (.iload 5, 2) := by decide +kernel
theorem dX5_wave_33 : decode cX5_wave 33 = .ok (.ifCond .ne 7, 3) := by decide +kernel
theorem dX5_wave_36 : decode cX5_wave 36 = .ok (.lload_n 3, 1) := by decide +kernel
theorem dX5_wave_37 : decode cX5_wave 37 = .ok (.goto 22, 3) := by decide +kernel
theorem dX5_wave_40 : decode cX5_wave 40 = .ok (.lload_n 3, 1) := by decide +kernel
theorem dX5_wave_41 : decode cX5_wave 41 = .ok (.lconst 0, 1) := by decide +kernel
theorem dX5_wave_42 : decode cX5_wave 42 = .ok (.lcmp, 1) := by decide +kernel
theorem dX5_wave_43 : decode cX5_wave 43 = .ok (.ifCond .le 11, 3) := by decide +kernel
theorem dX5_wave_46 : decode cX5_wave 46 = .ok (.lload_n 3, 1) := by decide +kernel
theorem dX5_wave_47 : decode cX5_wave 47 = .ok (.ldc2_w 163, 3) := by decide +kernel
theorem dX5_wave_50 : decode cX5_wave 50 = .ok (.lsub, 1) := by decide +kernel
theorem dX5_wave_51 : decode cX5_wave 51 = .ok (.goto 8, 3) := by decide +kernel
theorem dX5_wave_54 : decode cX5_wave 54 = .ok (.lload_n 3, 1) := by decide +kernel
theorem dX5_wave_55 : decode cX5_wave 55 = .ok (.ldc2_w 163, 3) := by decide +kernel
theorem dX5_wave_58 : decode cX5_wave 58 = .ok (.ladd, 1) := by decide +kernel
theorem dX5_wave_59 : decode cX5_wave 59 = .ok (.lstore_n 3, 1) := by decide +kernel
theorem dX5_wave_60 : decode cX5_wave 60 = .ok (.ldc2_w 165, 3) := by decide +kernel
theorem dX5_wave_63 : decode cX5_wave 63 = .ok (.lstore 6, 2) := by decide +kernel
theorem dX5_wave_65 : decode cX5_wave 65 = .ok (.lconst 0, 1) := by decide +kernel
theorem dX5_wave_66 : decode cX5_wave 66 = .ok (.lstore 8, 2) := by decide +kernel
theorem dX5_wave_68 : decode cX5_wave 68 = .ok (.iconst 0, 1) := by decide +kernel
theorem dX5_wave_69 : decode cX5_wave 69 = .ok (.istore 10, 2) := by decide +kernel
theorem dX5_wave_71 : decode cX5_wave 71 = .ok (.iload 10, 2) := by decide +kernel
theorem dX5_wave_73 : decode cX5_wave 73 = .ok (.bipush 30, 2) := by decide +kernel
theorem dX5_wave_75 : decode cX5_wave 75 = .ok (.if_icmp .ge 65, 3) := by decide +kernel
theorem dX5_wave_78 : decode cX5_wave 78 = .ok (.lload_n 3, 1) := by decide +kernel
theorem dX5_wave_79 : decode cX5_wave 79 = .ok (.lconst 0, 1) := by decide +kernel
theorem dX5_wave_80 : decode cX5_wave 80 = .ok (.lcmp, 1) := by decide +kernel
theorem dX5_wave_81 : decode cX5_wave 81 = .ok (.ifCond .ge 9, 3) := by decide +kernel
theorem dX5_wave_84 : decode cX5_wave 84 = .ok (.ldc2_w 167, 3) := by decide +kernel
theorem dX5_wave_87 : decode cX5_wave 87 = .ok (.goto 4, 3) := by decide +kernel
theorem dX5_wave_90 : decode cX5_wave 90 = .ok (.lconst 1, 1) := by decide +kernel
theorem dX5_wave_91 : decode cX5_wave 91 = .ok (.lstore 11, 2) := by decide +kernel
theorem dX5_wave_93 : decode cX5_wave 93 = .ok (.lload 6, 2) := by decide +kernel
theorem dX5_wave_95 : decode cX5_wave 95 = .ok (.lstore 13, 2) := by decide +kernel
theorem dX5_wave_97 : decode cX5_wave 97 = .ok (.lload 6, 2) := by decide +kernel
theorem dX5_wave_99 : decode cX5_wave 99 = .ok (.lload 11, 2) := by decide +kernel
theorem dX5_wave_101 : decode cX5_wave 101 = .ok (.lload 8, 2) := by decide +kernel
theorem dX5_wave_103 : decode cX5_wave 103 = .ok (.iload 10, 2) := by decide +kernel
theorem dX5_wave_105 : decode cX5_wave 105 = .ok (.lshr, 1) := by decide +kernel
theorem dX5_wave_106 : decode cX5_wave 106 = .ok (.lmul, 1) := by decide +kernel
theorem dX5_wave_107 : decode cX5_wave 107 = .ok (.lsub, 1) := by decide +kernel
theorem dX5_wave_108 : decode cX5_wave 108 = .ok (.lstore 6, 2) := by decide +kernel
theorem dX5_wave_110 : decode cX5_wave 110 = .ok (.lload 8, 2) := by decide +kernel
theorem dX5_wave_112 : decode cX5_wave 112 = .ok (.lload 11, 2) := by decide +kernel
theorem dX5_wave_114 : decode cX5_wave 114 = .ok (.lload 13, 2) := by decide +kernel
theorem dX5_wave_116 : decode cX5_wave 116 = .ok (.iload 10, 2) := by decide +kernel
theorem dX5_wave_118 : decode cX5_wave 118 = .ok (.lshr, 1) := by decide +kernel
theorem dX5_wave_119 : decode cX5_wave 119 = .ok (.lmul, 1) := by decide +kernel
theorem dX5_wave_120 : decode cX5_wave 120 = .ok (.ladd, 1) := by decide +kernel
theorem dX5_wave_121 : decode cX5_wave 121 = .ok (.lstore 8, 2) := by decide +kernel
theorem dX5_wave_123 : decode cX5_wave 123 = .ok (.lload_n 3, 1) := by decide +kernel
theorem dX5_wave_124 : decode cX5_wave 124 = .ok (.lload 11, 2) := by decide +kernel
theorem dX5_wave_126 : decode cX5_wave 126 = .ok (.iload 10, 2) := by decide +kernel
theorem dX5_wave_128 : decode cX5_wave 128 = .ok (.invokestatic 169, 3) := by decide +kernel
theorem dX5_wave_131 : decode cX5_wave 131 = .ok (.lmul, 1) := by decide +kernel
theorem dX5_wave_132 : decode cX5_wave 132 = .ok (.lsub, 1) := by decide +kernel
theorem dX5_wave_133 : decode cX5_wave 133 = .ok (.lstore_n 3, 1) := by decide +kernel
theorem dX5_wave_134 : decode cX5_wave 134 = .ok (.iinc 10 1, 3) := by decide +kernel
theorem dX5_wave_137 : decode cX5_wave 137 = .ok (.goto (-66), 3) := by decide +kernel
theorem dX5_wave_140 : decode cX5_wave 140 = .ok (.iload_n 2, 1) := by decide +kernel
theorem dX5_wave_141 : decode cX5_wave 141 = .ok (.ifCond .eq 8, 3) := by decide +kernel
theorem dX5_wave_144 : decode cX5_wave 144 = .ok (.lload 6, 2) := by decide +kernel
theorem dX5_wave_146 : decode cX5_wave 146 = .ok (.goto 5, 3) := by decide +kernel
theorem dX5_wave_149 : decode cX5_wave 149 = .ok (.lload 8, 2) := by decide +kernel
theorem dX5_wave_151 : decode cX5_wave 151 = .ok (.lstore 10, 2) := by decide +kernel
theorem dX5_wave_153 : decode cX5_wave 153 = .ok (.iload 5, 2) := by decide +kernel
theorem dX5_wave_155 : decode cX5_wave 155 = .ok (.ifCond .eq 9, 3) := by decide +kernel
theorem dX5_wave_158 : decode cX5_wave 158 = .ok (.lload 10, 2) := by decide +kernel
theorem dX5_wave_160 : decode cX5_wave 160 = .ok (.lneg, 1) := by decide +kernel
theorem dX5_wave_161 : decode cX5_wave 161 = .ok (.goto 5, 3) := by decide +kernel
theorem dX5_wave_164 : decode cX5_wave 164 = .ok (.lload 10, 2) := by decide +kernel
theorem dX5_wave_166 : decode cX5_wave 166 = .ok (.l2i, 1) := by decide +kernel
theorem dX5_wave_167 : decode cX5_wave 167 = .ok (.ireturn, 1) := by decide +kernel
theorem dX5_isNear_0 : decode cX5_isNear 0 = .ok (.iload_n 0, 1) := by decide +kernel
theorem dX5_isNear_1 : decode cX5_isNear 1 = .ok (.ldc 172, 2) := by decide +kernel
theorem dX5_isNear_3 : decode cX5_isNear 3 = .ok (.if_icmp .lt 13, 3) := by decide +kernel
theorem dX5_isNear_6 : decode cX5_isNear 6 = .ok (.iload_n 0, 1) := by decide +kernel
theorem dX5_isNear_7 : decode cX5_isNear 7 = .ok (.ldc 173, 2) := by decide +kernel
theorem dX5_isNear_9 : decode cX5_isNear 9 = .ok (.if_icmp .gt 7, 3) := by decide +kernel
theorem dX5_isNear_12 : decode cX5_isNear 12 = .ok (.iconst 1, 1) := by decide +kernel
theorem dX5_isNear_13 : decode cX5_isNear 13 = .ok (.goto 4, 3) := by decide +kernel
theorem dX5_isNear_16 : decode cX5_isNear 16 = .ok (.iconst 0, 1) := by decide +kernel
theorem dX5_isNear_17 : decode cX5_isNear 17 = .ok (.ireturn, 1) := by decide +kernel
theorem dX5_turn_0 : decode cX5_turn 0 = .ok (.iload_n 1, 1) := by decide +kernel
theorem dX5_turn_1 : decode cX5_turn 1 = .ok (.ifCond .ge 7, 3) := by decide +kernel
theorem dX5_turn_4 : decode cX5_turn 4 = .ok (.iconst 1, 1) := by decide +kernel
theorem dX5_turn_5 : decode cX5_turn 5 = .ok (.goto 4, 3) := by decide +kernel
theorem dX5_turn_8 : decode cX5_turn 8 = .ok (.iconst 0, 1) := by decide +kernel
theorem dX5_turn_9 : decode cX5_turn 9 = .ok (.istore_n 3, 1) := by decide +kernel
theorem dX5_turn_10 : decode cX5_turn 10 = .ok (.iload_n 3, 1) := by decide +kernel
theorem dX5_turn_11 : decode cX5_turn 11 = .ok (.ifCond .eq 9, 3) := by decide +kernel
theorem dX5_turn_14 : decode cX5_turn 14 = .ok (.iload_n 1, 1) := by decide +kernel
theorem dX5_turn_15 : decode cX5_turn 15 = .ok (.i2l, 1) := by decide +kernel
theorem dX5_turn_16 : decode cX5_turn 16 = .ok (.lneg, 1) := by decide +kernel
theorem dX5_turn_17 : decode cX5_turn 17 = .ok (.goto 5, 3) := by decide +kernel
theorem dX5_turn_20 : decode cX5_turn 20 = .ok (.iload_n 1, 1) := by decide +kernel
theorem dX5_turn_21 : decode cX5_turn 21 = .ok (.i2l, 1) := by decide +kernel
theorem dX5_turn_22 : decode cX5_turn 22 = .ok (.lstore 4, 2) := by decide +kernel
theorem dX5_turn_24 : decode cX5_turn 24 = .ok (.iload_n 3, 1) := by decide +kernel
theorem dX5_turn_25 : decode cX5_turn 25 = .ok (.ifCond .eq 9, 3) := by decide +kernel
theorem dX5_turn_28 : decode cX5_turn 28 = .ok (.iload_n 2, 1) := by decide +kernel
theorem dX5_turn_29 : decode cX5_turn 29 = .ok (.i2l, 1) := by decide +kernel
theorem dX5_turn_30 : decode cX5_turn 30 = .ok (.lneg, 1) := by decide +kernel
theorem dX5_turn_31 : decode cX5_turn 31 = .ok (.goto 5, 3) := by decide +kernel
theorem dX5_turn_34 : decode cX5_turn 34 = .ok (.iload_n 2, 1) := by decide +kernel
theorem dX5_turn_35 : decode cX5_turn 35 = .ok (.i2l, 1) := by decide +kernel
theorem dX5_turn_36 : decode cX5_turn 36 = .ok (.lstore 6, 2) := by decide +kernel
theorem dX5_turn_38 : decode cX5_turn 38 = .ok (.iload_n 3, 1) := by decide +kernel
theorem dX5_turn_39 : decode cX5_turn 39 = .ok (.ifCond .eq 9, 3) := by decide +kernel
theorem dX5_turn_42 : decode cX5_turn 42 = .ok (.ldc2_w 174, 3) := by decide +kernel
theorem dX5_turn_45 : decode cX5_turn 45 = .ok (.goto 4, 3) := by decide +kernel
theorem dX5_turn_48 : decode cX5_turn 48 = .ok (.lconst 0, 1) := by decide +kernel
theorem dX5_turn_49 : decode cX5_turn 49 = .ok (.lstore 8, 2) := by decide +kernel
theorem dX5_turn_51 : decode cX5_turn 51 = .ok (.iconst 0, 1) := by decide +kernel
theorem dX5_turn_52 : decode cX5_turn 52 = .ok (.istore 10, 2) := by decide +kernel
theorem dX5_turn_54 : decode cX5_turn 54 = .ok (.iload 10, 2) := by decide +kernel
theorem dX5_turn_56 : decode cX5_turn 56 = .ok (.bipush 30, 2) := by decide +kernel
theorem dX5_turn_58 : decode cX5_turn 58 = .ok (.if_icmp .ge 68, 3) := by decide +kernel
theorem dX5_turn_61 : decode cX5_turn 61 = .ok (.lload 6, 2) := by decide +kernel
theorem dX5_turn_63 : decode cX5_turn 63 = .ok (.lconst 0, 1) := by decide +kernel
theorem dX5_turn_64 : decode cX5_turn 64 = .ok (.lcmp, 1) := by decide +kernel
theorem dX5_turn_65 : decode cX5_turn 65 = .ok (.ifCond .ge 9, 3) := by decide +kernel
theorem dX5_turn_68 : decode cX5_turn 68 = .ok (.ldc2_w 167, 3) := by decide +kernel
theorem dX5_turn_71 : decode cX5_turn 71 = .ok (.goto 4, 3) := by decide +kernel
theorem dX5_turn_74 : decode cX5_turn 74 = .ok (.lconst 1, 1) := by decide +kernel
theorem dX5_turn_75 : decode cX5_turn 75 = .ok (.lstore 11, 2) := by decide +kernel
theorem dX5_turn_77 : decode cX5_turn 77 = .ok (.lload 4, 2) := by decide +kernel
theorem dX5_turn_79 : decode cX5_turn 79 = .ok (.lstore 13, 2) := by decide +kernel
theorem dX5_turn_81 : decode cX5_turn 81 = .ok (.lload 4, 2) := by decide +kernel
theorem dX5_turn_83 : decode cX5_turn 83 = .ok (.lload 11, 2) := by decide +kernel
theorem dX5_turn_85 : decode cX5_turn 85 = .ok (.lload 6, 2) := by decide +kernel
theorem dX5_turn_87 : decode cX5_turn 87 = .ok (.iload 10, 2) := by decide +kernel
theorem dX5_turn_89 : decode cX5_turn 89 = .ok (.lshr, 1) := by decide +kernel
theorem dX5_turn_90 : decode cX5_turn 90 = .ok (.lmul, 1) := by decide +kernel
theorem dX5_turn_91 : decode cX5_turn 91 = .ok (.ladd, 1) := by decide +kernel
theorem dX5_turn_92 : decode cX5_turn 92 = .ok (.lstore 4, 2) := by decide +kernel
theorem dX5_turn_94 : decode cX5_turn 94 = .ok (.lload 6, 2) := by decide +kernel
theorem dX5_turn_96 : decode cX5_turn 96 = .ok (.lload 11, 2) := by decide +kernel
theorem dX5_turn_98 : decode cX5_turn 98 = .ok (.lload 13, 2) := by decide +kernel
theorem dX5_turn_100 : decode cX5_turn 100 = .ok (.iload 10, 2) := by decide +kernel
theorem dX5_turn_102 : decode cX5_turn 102 = .ok (.lshr, 1) := by decide +kernel
theorem dX5_turn_103 : decode cX5_turn 103 = .ok (.lmul, 1) := by decide +kernel
theorem dX5_turn_104 : decode cX5_turn 104 = .ok (.lsub, 1) := by decide +kernel
theorem dX5_turn_105 : decode cX5_turn 105 = .ok (.lstore 6, 2) := by decide +kernel
theorem dX5_turn_107 : decode cX5_turn 107 = .ok (.lload 8, 2) := by decide +kernel
theorem dX5_turn_109 : decode cX5_turn 109 = .ok (.lload 11, 2) := by decide +kernel
theorem dX5_turn_111 : decode cX5_turn 111 = .ok (.iload 10, 2) := by decide +kernel
theorem dX5_turn_113 : decode cX5_turn 113 = .ok (.invokestatic 169, 3) := by decide +kernel
theorem dX5_turn_116 : decode cX5_turn 116 = .ok (.lmul, 1) := by decide +kernel
theorem dX5_turn_117 : decode cX5_turn 117 = .ok (.ladd, 1) := by decide +kernel
theorem dX5_turn_118 : decode cX5_turn 118 = .ok (.lstore 8, 2) := by decide +kernel
theorem dX5_turn_120 : decode cX5_turn 120 = .ok (.iinc 10 1, 3) := by decide +kernel
theorem dX5_turn_123 : decode cX5_turn 123 = .ok (.goto (-69), 3) := by decide +kernel
theorem dX5_turn_126 : decode cX5_turn 126 = .ok (.aload_n 0, 1) := by decide +kernel
theorem dX5_turn_127 : decode cX5_turn 127 = .ok (.lload 4, 2) := by decide +kernel
theorem dX5_turn_129 : decode cX5_turn 129 = .ok (.putfield 176, 3) := by decide +kernel
theorem dX5_turn_132 : decode cX5_turn 132 = .ok (.aload_n 0, 1) := by decide +kernel
theorem dX5_turn_133 : decode cX5_turn 133 = .ok (.lload 8, 2) := by decide +kernel
theorem dX5_turn_135 : decode cX5_turn 135 = .ok (.putfield 180, 3) := by decide +kernel
theorem dX5_turn_138 : decode cX5_turn 138 = .ok (.return_, 1) := by decide +kernel
theorem dX5_angle_0 : decode cX5_angle 0 = .ok (.aload_n 0, 1) := by decide +kernel
theorem dX5_angle_1 : decode cX5_angle 1 = .ok (.iload_n 1, 1) := by decide +kernel
theorem dX5_angle_2 : decode cX5_angle 2 = .ok (.invokestatic 183, 3) := by decide +kernel
theorem dX5_angle_5 : decode cX5_angle 5 = .ok (.ifCond .eq 14, 3) := by decide +kernel
theorem dX5_angle_8 : decode cX5_angle 8 = .ok (.iload_n 2, 1) := by decide +kernel
theorem dX5_angle_9 : decode cX5_angle 9 = .ok (.invokestatic 183, 3) := by decide +kernel
theorem dX5_angle_12 : decode cX5_angle 12 = .ok (.ifCond .eq 7, 3) := by decide +kernel
theorem dX5_angle_15 : decode cX5_angle 15 = .ok (.iconst 0, 1) := by decide +kernel
theorem dX5_angle_16 : decode cX5_angle 16 = .ok (.goto 4, 3) := by decide +kernel
theorem dX5_angle_19 : decode cX5_angle 19 = .ok (.iconst 1, 1) := by decide +kernel
theorem dX5_angle_20 : decode cX5_angle 20 = .ok (.invokevirtual 45, 3) := by decide +kernel
theorem dX5_angle_23 : decode cX5_angle 23 = .ok (.ifCond .eq 5, 3) := by decide +kernel
theorem dX5_angle_26 : decode cX5_angle 26 = .ok (.iconst 0, 1) := by decide +kernel
theorem dX5_angle_27 : decode cX5_angle 27 = .ok (.ireturn, 1) := by decide +kernel
theorem dX5_angle_28 : decode cX5_angle 28 = .ok (.aload_n 0, 1) := by decide +kernel
theorem dX5_angle_29 : decode cX5_angle 29 = .ok (.iload_n 1, 1) := by decide +kernel
theorem dX5_angle_30 : decode cX5_angle 30 = .ok (.iload_n 2, 1) := by decide +kernel
theorem dX5_angle_31 : decode cX5_angle 31 = .ok (.invokevirtual 186, 3) := by decide +kernel
theorem dX5_angle_34 : decode cX5_angle 34 = .ok (.iload_n 1, 1) := by decide +kernel
theorem dX5_angle_35 : decode cX5_angle 35 = .ok (.ifCond .ne 11, 3) := by decide +kernel
theorem dX5_angle_38 : decode cX5_angle 38 = .ok (.iload_n 2, 1) := by decide +kernel
theorem dX5_angle_39 : decode cX5_angle 39 = .ok (.ifCond .ne 7, 3) := by decide +kernel
theorem dX5_angle_42 : decode cX5_angle 42 = .ok (.iconst 0, 1) := by decide +kernel
theorem dX5_angle_43 : decode cX5_angle 43 = .ok (.goto 8, 3) := by decide +kernel
theorem dX5_angle_46 : decode cX5_angle 46 = .ok (.aload_n 0, 1) := by decide +kernel
theorem dX5_angle_47 : decode cX5_angle 47 = .ok (.getfield 180, 3) := by decide +kernel
theorem dX5_angle_50 : decode cX5_angle 50 = .ok (.l2i, 1) := by decide +kernel
theorem dX5_angle_51 : decode cX5_angle 51 = .ok (.ireturn, 1) := by decide +kernel
theorem dX5_length_0 : decode cX5_length 0 = .ok (.aload_n 0, 1) := by decide +kernel
theorem dX5_length_1 : decode cX5_length 1 = .ok (.iload_n 1, 1) := by decide +kernel
theorem dX5_length_2 : decode cX5_length 2 = .ok (.invokestatic 183, 3) := by decide +kernel
theorem dX5_length_5 : decode cX5_length 5 = .ok (.ifCond .eq 14, 3) := by decide +kernel
theorem dX5_length_8 : decode cX5_length 8 = .ok (.iload_n 2, 1) := by decide +kernel
theorem dX5_length_9 : decode cX5_length 9 = .ok (.invokestatic 183, 3) := by decide +kernel
theorem dX5_length_12 : decode cX5_length 12 = .ok (.ifCond .eq 7, 3) := by decide +kernel
theorem dX5_length_15 : decode cX5_length 15 = .ok (.iconst 0, 1) := by decide +kernel
theorem dX5_length_16 : decode cX5_length 16 = .ok (.goto 4, 3) := by decide +kernel
theorem dX5_length_19 : decode cX5_length 19 = .ok (.iconst 1, 1) := by decide +kernel
theorem dX5_length_20 : decode cX5_length 20 = .ok (.invokevirtual 45, 3) := by decide +kernel
theorem dX5_length_23 : decode cX5_length 23 = .ok (.ifCond .eq 5, 3) := by decide +kernel
theorem dX5_length_26 : decode cX5_length 26 = .ok (.iconst 0, 1) := by decide +kernel
theorem dX5_length_27 : decode cX5_length 27 = .ok (.ireturn, 1) := by decide +kernel
theorem dX5_length_28 : decode cX5_length 28 = .ok (.aload_n 0, 1) := by decide +kernel
theorem dX5_length_29 : decode cX5_length 29 = .ok (.iload_n 1, 1) := by decide +kernel
theorem dX5_length_30 : decode cX5_length 30 = .ok (.iload_n 2, 1) := by decide +kernel
theorem dX5_length_31 : decode cX5_length 31 = .ok (.invokevirtual 186, 3) := by decide +kernel
theorem dX5_length_34 : decode cX5_length 34 = .ok (.aload_n 0, 1) := by decide +kernel
theorem dX5_length_35 : decode cX5_length 35 = .ok (.getfield 176, 3) := by decide +kernel
theorem dX5_length_38 : decode cX5_length 38 = .ok (.ldc2_w 165, 3) := by decide +kernel
theorem dX5_length_41 : decode cX5_length 41 = .ok (.lmul, 1) := by decide +kernel
theorem dX5_length_42 : decode cX5_length 42 = .ok (.bipush 30, 2) := by decide +kernel
theorem dX5_length_44 : decode cX5_length 44 = .ok (.invokestatic 37, 3) := by decide +kernel
theorem dX5_length_47 : decode cX5_length 47 = .ok (.l2i, 1) := by decide +kernel
theorem dX5_length_48 : decode cX5_length 48 = .ok (.ireturn, 1) := by decide +kernel
