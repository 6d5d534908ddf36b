/-! decode rows, as printed -/
theorem dX2_measure_10 : decode cX2_measure 10 = .ok (.iconst 1, 1) := by decide +kernel
theorem dX2_measure_11 : decode cX2_measure 11 = .ok (.istore 4, 2) := by decide +kernel
theorem dX2_measure_13 : decode cX2_measure 13 = .ok (.iconst 0, 1) := by decide +kernel
theorem dX2_measure_14 : decode cX2_measure 14 = .ok (.istore 5, 2) := by decide +kernel
theorem dX2_measure_16 : decode cX2_measure 16 = .ok (.iload 5, 2) := by decide +kernel
theorem dX2_measure_18 : decode cX2_measure 18 = .ok (.aload_n 0, 1) := by decide +kernel
theorem dX2_measure_19 : decode cX2_measure 19 = .ok (.getfield 39, 3) := by decide +kernel
theorem dX2_measure_22 : decode cX2_measure 22 = .ok (.if_icmp .ge 54, 3) := by decide +kernel
theorem dX2_measure_25 : decode cX2_measure 25 = .ok (.iload 4, 2) := by decide +kernel
theorem dX2_measure_27 : decode cX2_measure 27 = .ok (.ifCond .eq 49, 3) := by decide +kernel
theorem dX2_measure_30 : decode cX2_measure 30 = .ok (.iconst 0, 1) := by decide +kernel
theorem dX2_measure_31 : decode cX2_measure 31 = .ok (.istore 4, 2) := by decide +kernel
theorem dX2_measure_33 : decode cX2_measure 33 = .ok (.iconst 0, 1) := by decide +kernel
theorem dX2_measure_34 : decode cX2_measure 34 = .ok (.istore 6, 2) := by decide +kernel
theorem dX2_measure_36 : decode cX2_measure 36 = .ok (.iload 6, 2) := by decide +kernel
theorem dX2_measure_38 : decode cX2_measure 38 = .ok (.aload_n 0, 1) := by decide +kernel
theorem dX2_measure_39 : decode cX2_measure 39 = .ok (.getfield 43, 3) := by decide +kernel
theorem dX2_measure_42 : decode cX2_measure 42 = .ok (.if_icmp .ge 28, 3) := by decide +kernel
theorem dX2_measure_45 : decode cX2_measure 45 = .ok (.iload 6, 2) := by decide +kernel
theorem dX2_measure_47 : decode cX2_measure 47 = .ok (.iload_n 3, 1) := by decide +kernel
theorem dX2_measure_48 : decode cX2_measure 48 = .ok (.if_icmp .eq 16, 3) := by decide +kernel
theorem dX2_measure_51 : decode cX2_measure 51 = .ok (.aload_n 0, 1) := by decide +kernel
theorem dX2_measure_52 : decode cX2_measure 52 = .ok (.aload_n 1, 1) := by decide +kernel
theorem dX2_measure_53 : decode cX2_measure 53 = .ok (.iload 6, 2) := by decide +kernel
theorem dX2_measure_55 : decode cX2_measure 55 = .ok (.invokevirtual 85, 3) := by decide +kernel
theorem dX2_measure_58 : decode cX2_measure 58 = .ok (.ifCond .eq 6, 3) := by decide +kernel
theorem dX2_measure_61 : decode cX2_measure 61 = .ok (.iconst 1, 1) := by decide +kernel
theorem dX2_measure_62 : decode cX2_measure 62 = .ok (.istore 4, 2) := by decide +kernel
theorem dX2_measure_64 : decode cX2_measure 64 = .ok (.iinc 6 1, 3) := by decide +kernel
theorem dX2_measure_67 : decode cX2_measure 67 = .ok (.goto (-31), 3) := by decide +kernel
theorem dX2_measure_70 : decode cX2_measure 70 = .ok (.iinc 5 1, 3) := by decide +kernel
theorem dX2_measure_73 : decode cX2_measure 73 = .ok (.goto (-57), 3) := by decide +kernel
theorem dX2_measure_76 : decode cX2_measure 76 = .ok (.return_, 1) := by decide +kernel
theorem dX2_shorten_0 : decode cX2_shorten 0 = .ok (.aload_n 0, 1) := by decide +kernel
theorem dX2_shorten_1 : decode cX2_shorten 1 = .ok (.getfield 9, 3) := by decide +kernel
theorem dX2_shorten_4 : decode cX2_shorten 4 = .ok (.iload_n 2, 1) := by decide +kernel
theorem dX2_shorten_5 : decode cX2_shorten 5 = .ok (.iaload, 1) := by decide +kernel
theorem dX2_shorten_6 : decode cX2_shorten 6 = .ok (.istore_n 3, 1) := by decide +kernel
theorem dX2_shorten_7 : decode cX2_shorten 7 = .ok (.aload_n 0, 1) := by decide +kernel
theorem dX2_shorten_8 : decode cX2_shorten 8 = .ok (.getfield 15, 3) := by decide +kernel
theorem dX2_shorten_11 : decode cX2_shorten 11 = .ok (.iload_n 2, 1) := by decide +kernel
theorem dX2_shorten_12 : decode cX2_shorten 12 = .ok (.iaload, 1) := by decide +kernel
theorem dX2_shorten_13 : decode cX2_shorten 13 = .ok (.istore 4, 2) := by decide +kernel
theorem dX2_shorten_15 : decode cX2_shorten 15 = .ok (.aload_n 1, 1) := by decide +kernel
theorem dX2_shorten_16 : decode cX2_shorten 16 = .ok (.iload_n 3, 1) := by decide +kernel
theorem dX2_shorten_17 : decode cX2_shorten 17 = .ok (.iaload, 1) := by decide +kernel
theorem dX2_shorten_18 : decode cX2_shorten 18 = .ok (.aload_n 0, 1) := by decide +kernel
theorem dX2_shorten_19 : decode cX2_shorten 19 = .ok (.getfield 18, 3) := by decide +kernel
theorem dX2_shorten_22 : decode cX2_shorten 22 = .ok (.iload_n 2, 1) := by decide +kernel
theorem dX2_shorten_23 : decode cX2_shorten 23 = .ok (.iaload, 1) := by decide +kernel
theorem dX2_shorten_24 : decode cX2_shorten 24 = .ok (.iadd, 1) := by decide +kernel
theorem dX2_shorten_25 : decode cX2_shorten 25 = .ok (.aload_n 1, 1) := by decide +kernel
theorem dX2_shorten_26 : decode cX2_shorten 26 = .ok (.iload 4, 2) := by decide +kernel
theorem dX2_shorten_28 : decode cX2_shorten 28 = .ok (.iaload, 1) := by decide +kernel
theorem dX2_shorten_29 : decode cX2_shorten 29 = .ok (.if_icmp .ge 19, 3) := by decide +kernel
theorem dX2_shorten_32 : decode cX2_shorten 32 = .ok (.aload_n 1, 1) := by decide +kernel
theorem dX2_shorten_33 : decode cX2_shorten 33 = .ok (.iload 4, 2) := by decide +kernel
theorem dX2_shorten_35 : decode cX2_shorten 35 = .ok (.aload_n 1, 1) := by decide +kernel
theorem dX2_shorten_36 : decode cX2_shorten 36 = .ok (.iload_n 3, 1) := by decide +kernel
theorem dX2_shorten_37 : decode cX2_shorten 37 = .ok (.iaload, 1) := by decide +kernel
theorem dX2_shorten_38 : decode cX2_shorten 38 = .ok (.aload_n 0, 1) := by decide +kernel
theorem dX2_shorten_39 : decode cX2_shorten 39 = .ok (.getfield 18, 3) := by decide +kernel
theorem dX2_shorten_42 : decode cX2_shorten 42 = .ok (.iload_n 2, 1) := by decide +kernel
theorem dX2_shorten_43 : decode cX2_shorten 43 = .ok (.iaload, 1) := by decide +kernel
theorem dX2_shorten_44 : decode cX2_shorten 44 = .ok (.iadd, 1) := by decide +kernel
theorem dX2_shorten_45 : decode cX2_shorten 45 = .ok (.iastore, 1) := by decide +kernel
theorem dX2_shorten_46 : decode cX2_shorten 46 = .ok (.iconst 1, 1) := by decide +kernel
theorem dX2_shorten_47 : decode cX2_shorten 47 = .ok (.ireturn, 1) := by decide +kernel
theorem dX2_shorten_48 : decode cX2_shorten 48 = .ok (.aload_n 1, 1) := by decide +kernel
theorem dX2_shorten_49 : decode cX2_shorten 49 = .ok (.iload 4, 2) := by decide +kernel
theorem dX2_shorten_51 : decode cX2_shorten 51 = .ok (.iaload, 1) := by decide +kernel
theorem dX2_shorten_52 : decode cX2_shorten 52 = .ok (.aload_n 0, 1) := by decide +kernel
theorem dX2_shorten_53 : decode cX2_shorten 53 = .ok (.getfield 18, 3) := by decide +kernel
theorem dX2_shorten_56 : decode cX2_shorten 56 = .ok (.iload_n 2, 1) := by decide +kernel
theorem dX2_shorten_57 : decode cX2_shorten 57 = .ok (.iaload, 1) := by decide +kernel
theorem dX2_shorten_58 : decode cX2_shorten 58 = .ok (.iadd, 1) := by decide +kernel
theorem dX2_shorten_59 : decode cX2_shorten 59 = .ok (.aload_n 1, 1) := by decide +kernel
theorem dX2_shorten_60 : decode cX2_shorten 60 = .ok (.iload_n 3, 1) := by decide +kernel
theorem dX2_shorten_61 : decode cX2_shorten 61 = .ok (.iaload, 1) := by decide +kernel
theorem dX2_shorten_62 : decode cX2_shorten 62 = .ok (.if_icmp .ge 19, 3) := by decide +kernel
theorem dX2_shorten_65 : decode cX2_shorten 65 = .ok (.aload_n 1, 1) := by decide +kernel
theorem dX2_shorten_66 : decode cX2_shorten 66 = .ok (.iload_n 3, 1) := by decide +kernel
theorem dX2_shorten_67 : decode cX2_shorten 67 = .ok (.aload_n 1, 1) := by decide +kernel
theorem dX2_shorten_68 : decode cX2_shorten 68 = .ok (.iload 4, 2) := by decide +kernel
theorem dX2_shorten_70 : decode cX2_shorten 70 = .ok (.iaload, 1) := by decide +kernel
theorem dX2_shorten_71 : decode cX2_shorten 71 = .ok (.aload_n 0, 1) := by decide +kernel
theorem dX2_shorten_72 : decode cX2_shorten 72 = .ok (.getfield 18, 3) := by decide +kernel
theorem dX2_shorten_75 : decode cX2_shorten 75 = .ok (.iload_n 2, 1) := by decide +kernel
theorem dX2_shorten_76 : decode cX2_shorten 76 = .ok (.iaload, 1) := by decide +kernel
theorem dX2_shorten_77 : decode cX2_shorten 77 = .ok (.iadd, 1) := by decide +kernel
theorem dX2_shorten_78 : decode cX2_shorten 78 = .ok (.iastore, 1) := by decide +kernel
theorem dX2_shorten_79 : decode cX2_shorten 79 = .ok (.iconst 1, 1) := by decide +kernel
theorem dX2_shorten_80 : decode cX2_shorten 80 = .ok (.ireturn, 1) := by decide +kernel
theorem dX2_shorten_81 : decode cX2_shorten 81 = .ok (.iconst 0, 1) := by decide +kernel
theorem dX2_shorten_82 : decode cX2_shorten 82 = .ok (.ireturn, 1) := by decide +kernel
theorem dX2_hopBy_0 : decode cX2_hopBy 0 = .ok (.aload_n 1, 1) := by decide +kernel
theorem dX2_hopBy_1 : decode cX2_hopBy 1 = .ok (.iload_n 2, 1) := by decide +kernel
theorem dX2_hopBy_2 : decode cX2_hopBy 2 = .ok (.iaload, 1) := by decide +kernel
theorem dX2_hopBy_3 : decode cX2_hopBy 3 = .ok (.ldc 64, 2) := by decide +kernel
theorem dX2_hopBy_5 : decode cX2_hopBy 5 = .ok (.if_icmp .lt 5, 3) := by decide +kernel
theorem dX2_hopBy_8 : decode cX2_hopBy 8 = .ok (.iconst (-1), 1) := by decide +kernel
theorem dX2_hopBy_9 : decode cX2_hopBy 9 = .ok (.ireturn, 1) := by decide +kernel
theorem dX2_hopBy_10 : decode cX2_hopBy 10 = .ok (.iconst 0, 1) := by decide +kernel
theorem dX2_hopBy_11 : decode cX2_hopBy 11 = .ok (.istore 4, 2) := by decide +kernel
theorem dX2_hopBy_13 : decode cX2_hopBy 13 = .ok (.iload 4, 2) := by decide +kernel
theorem dX2_hopBy_15 : decode cX2_hopBy 15 = .ok (.aload_n 0, 1) := by decide +kernel
theorem dX2_hopBy_16 : decode cX2_hopBy 16 = .ok (.getfield 39, 3) := by decide +kernel
theorem dX2_hopBy_19 : decode cX2_hopBy 19 = .ok (.if_icmp .ge 53, 3) := by decide +kernel
theorem dX2_hopBy_22 : decode cX2_hopBy 22 = .ok (.aload_n 0, 1) := by decide +kernel
theorem dX2_hopBy_23 : decode cX2_hopBy 23 = .ok (.getfield 32, 3) := by decide +kernel
theorem dX2_hopBy_26 : decode cX2_hopBy 26 = .ok (.iload_n 2, 1) := by decide +kernel
theorem dX2_hopBy_27 : decode cX2_hopBy 27 = .ok (.aaload, 1) := by decide +kernel
theorem dX2_hopBy_28 : decode cX2_hopBy 28 = .ok (.iload 4, 2) := by decide +kernel
theorem dX2_hopBy_30 : decode cX2_hopBy 30 = .ok (.iaload, 1) := by decide +kernel
theorem dX2_hopBy_31 : decode cX2_hopBy 31 = .ok (.istore 5, 2) := by decide +kernel
theorem dX2_hopBy_33 : decode cX2_hopBy 33 = .ok (.iload 5, 2) := by decide +kernel
theorem dX2_hopBy_35 : decode cX2_hopBy 35 = .ok (.iconst (-1), 1) := by decide +kernel
theorem dX2_hopBy_36 : decode cX2_hopBy 36 = .ok (.if_icmp .eq 30, 3) := by decide +kernel
theorem dX2_hopBy_39 : decode cX2_hopBy 39 = .ok (.iload 5, 2) := by decide +kernel
theorem dX2_hopBy_41 : decode cX2_hopBy 41 = .ok (.iload_n 3, 1) := by decide +kernel
theorem dX2_hopBy_42 : decode cX2_hopBy 42 = .ok (.if_icmp .eq 24, 3) := by decide +kernel
theorem dX2_hopBy_45 : decode cX2_hopBy 45 = .ok (.aload_n 0, 1) := by decide +kernel
theorem dX2_hopBy_46 : decode cX2_hopBy 46 = .ok (.getfield 18, 3) := by decide +kernel
theorem dX2_hopBy_49 : decode cX2_hopBy 49 = .ok (.iload 5, 2) := by decide +kernel
theorem dX2_hopBy_51 : decode cX2_hopBy 51 = .ok (.iaload, 1) := by decide +kernel
theorem dX2_hopBy_52 : decode cX2_hopBy 52 = .ok (.aload_n 1, 1) := by decide +kernel
theorem dX2_hopBy_53 : decode cX2_hopBy 53 = .ok (.iload 4, 2) := by decide +kernel
theorem dX2_hopBy_55 : decode cX2_hopBy 55 = .ok (.iaload, 1) := by decide +kernel
theorem dX2_hopBy_56 : decode cX2_hopBy 56 = .ok (.iadd, 1) := by decide +kernel
theorem dX2_hopBy_57 : decode cX2_hopBy 57 = .ok (.aload_n 1, 1) := by decide +kernel
theorem dX2_hopBy_58 : decode cX2_hopBy 58 = .ok (.iload_n 2, 1) := by decide +kernel
theorem dX2_hopBy_59 : decode cX2_hopBy 59 = .ok (.iaload, 1) := by decide +kernel
theorem dX2_hopBy_60 : decode cX2_hopBy 60 = .ok (.if_icmp .ne 6, 3) := by decide +kernel
theorem dX2_hopBy_63 : decode cX2_hopBy 63 = .ok (.iload 4, 2) := by decide +kernel
theorem dX2_hopBy_65 : decode cX2_hopBy 65 = .ok (.ireturn, 1) := by decide +kernel
theorem dX2_hopBy_66 : decode cX2_hopBy 66 = .ok (.iinc 4 1, 3) := by decide +kernel
theorem dX2_hopBy_69 : decode cX2_hopBy 69 = .ok (.goto (-56), 3) := by decide +kernel
theorem dX2_hopBy_72 : decode cX2_hopBy 72 = .ok (.iconst (-1), 1) := by decide +kernel
theorem dX2_hopBy_73 : decode cX2_hopBy 73 = .ok (.ireturn, 1) := by decide +kernel
theorem dX3_init_0 : decode cX3_init 0 = .ok (.aload_n 0, 1) := by decide +kernel
theorem dX3_init_1 : decode cX3_init 1 = .ok (.invokespecial 3, 3) := by decide +kernel
theorem dX3_init_4 : decode cX3_init 4 = .ok (.return_, 1) := by decide +kernel
theorem dX3_set_0 : decode cX3_set 0 = .ok (.aload_n 0, 1) := by decide +kernel
theorem dX3_set_1 : decode cX3_set 1 = .ok (.iload_n 1, 1) := by decide +kernel
theorem dX3_set_2 : decode cX3_set 2 = .ok (.putfield 9, 3) := by decide +kernel
theorem dX3_set_5 : decode cX3_set 5 = .ok (.aload_n 0, 1) := by decide +kernel
theorem dX3_set_6 : decode cX3_set 6 = .ok (.iload_n 2, 1) := by decide +kernel
theorem dX3_set_7 : decode cX3_set 7 = .ok (.putfield 15, 3) := by decide +kernel
theorem dX3_set_10 : decode cX3_set 10 = .ok (.return_, 1) := by decide +kernel
theorem dX3_isAtNode_0 : decode cX3_isAtNode 0 = .ok (.aload_n 0, 1) := by decide +kernel
theorem dX3_isAtNode_1 : decode cX3_isAtNode 1 = .ok (.getfield 9, 3) := by decide +kernel
theorem dX3_isAtNode_4 : decode cX3_isAtNode 4 = .ok (.iconst 2, 1) := by decide +kernel
theorem dX3_isAtNode_5 : decode cX3_isAtNode 5 = .ok (.if_icmp .ne 15, 3) := by decide +kernel
theorem dX3_isAtNode_8 : decode cX3_isAtNode 8 = .ok (.aload_n 0, 1) := by decide +kernel
theorem dX3_isAtNode_9 : decode cX3_isAtNode 9 = .ok (.getfield 15, 3) := by decide +kernel
theorem dX3_isAtNode_12 : decode cX3_isAtNode 12 = .ok (.iload_n 1, 1) := by decide +kernel
theorem dX3_isAtNode_13 : decode cX3_isAtNode 13 = .ok (.if_icmp .ne 7, 3) := by decide +kernel
theorem dX3_isAtNode_16 : decode cX3_isAtNode 16 = .ok (.iconst 1, 1) := by decide +kernel
theorem dX3_isAtNode_17 : decode cX3_isAtNode 17 = .ok (.goto 4, 3) := by decide +kernel
theorem dX3_isAtNode_20 : decode cX3_isAtNode 20 = .ok (.iconst 0, 1) := by decide +kernel
theorem dX3_isAtNode_21 : decode cX3_isAtNode 21 = .ok (.ireturn, 1) := by decide +kernel
theorem dX3_takes_0 : decode cX3_takes 0 = .ok (.aload_n 0, 1) := by decide +kernel
theorem dX3_takes_1 : decode cX3_takes 1 = .ok (.getfield 9, 3) := by decide +kernel
theorem dX3_takes_4 : decode cX3_takes 4 = .ok (.tableswitch 88 1 3 #[28, 42, 74], 28) := by decide +kernel
theorem dX3_takes_32 : decode cX3_takes 32 = .ok (.iload_n 2, 1) := by decide +kernel
theorem dX3_takes_33 : decode cX3_takes 33 = .ok (.aload_n 0, 1) := by decide +kernel
theorem dX3_takes_34 : decode cX3_takes 34 = .ok (.getfield 15, 3) := by decide +kernel
theorem dX3_takes_37 : decode cX3_takes 37 = .ok (.if_icmp .ne 7, 3) := by decide +kernel
theorem dX3_takes_40 : decode cX3_takes 40 = .ok (.iconst 1, 1) := by decide +kernel
theorem dX3_takes_41 : decode cX3_takes 41 = .ok (.goto 4, 3) := by decide +kernel
theorem dX3_takes_44 : decode cX3_takes 44 = .ok (.iconst 0, 1) := by decide +kernel
theorem dX3_takes_45 : decode cX3_takes 45 = .ok (.ireturn, 1) := by decide +kernel
theorem dX3_takes_46 : decode cX3_takes 46 = .ok (.aload_n 1, 1) := by decide +kernel
theorem dX3_takes_47 : decode cX3_takes 47 = .ok (.getfield 18, 3) := by decide +kernel
theorem dX3_takes_50 : decode cX3_takes 50 = .ok (.iload_n 2, 1) := by decide +kernel
theorem dX3_takes_51 : decode cX3_takes 51 = .ok (.iaload, 1) := by decide +kernel
theorem dX3_takes_52 : decode cX3_takes 52 = .ok (.aload_n 0, 1) := by decide +kernel
theorem dX3_takes_53 : decode cX3_takes 53 = .ok (.getfield 15, 3) := by decide +kernel
theorem dX3_takes_56 : decode cX3_takes 56 = .ok (.if_icmp .eq 16, 3) := by decide +kernel
theorem dX3_takes_59 : decode cX3_takes 59 = .ok (.aload_n 1, 1) := by decide +kernel
theorem dX3_takes_60 : decode cX3_takes 60 = .ok (.getfield 24, 3) := by decide +kernel
theorem dX3_takes_63 : decode cX3_takes 63 = .ok (.iload_n 2, 1) := by decide +kernel
theorem dX3_takes_64 : decode cX3_takes 64 = .ok (.iaload, 1) := by decide +kernel
theorem dX3_takes_65 : decode cX3_takes 65 = .ok (.aload_n 0, 1) := by decide +kernel
theorem dX3_takes_66 : decode cX3_takes 66 = .ok (.getfield 15, 3) := by decide +kernel
theorem dX3_takes_69 : decode cX3_takes 69 = .ok (.if_icmp .ne 7, 3) := by decide +kernel
theorem dX3_takes_72 : decode cX3_takes 72 = .ok (.iconst 1, 1) := by decide +kernel
theorem dX3_takes_73 : decode cX3_takes 73 = .ok (.goto 4, 3) := by decide +kernel
theorem dX3_takes_76 : decode cX3_takes 76 = .ok (.iconst 0, 1) := by decide +kernel
theorem dX3_takes_77 : decode cX3_takes 77 = .ok (.ireturn, 1) := by decide +kernel
theorem dX3_takes_78 : decode cX3_takes 78 = .ok (.aload_n 1, 1) := by decide +kernel
theorem dX3_takes_79 : decode cX3_takes 79 = .ok (.getfield 27, 3) := by decide +kernel
theorem dX3_takes_82 : decode cX3_takes 82 = .ok (.iload_n 2, 1) := by decide +kernel
theorem dX3_takes_83 : decode cX3_takes 83 = .ok (.iaload, 1) := by decide +kernel
theorem dX3_takes_84 : decode cX3_takes 84 = .ok (.aload_n 0, 1) := by decide +kernel
theorem dX3_takes_85 : decode cX3_takes 85 = .ok (.getfield 15, 3) := by decide +kernel
theorem dX3_takes_88 : decode cX3_takes 88 = .ok (.invokestatic 30, 3) := by decide +kernel
theorem dX3_takes_91 : decode cX3_takes 91 = .ok (.ireturn, 1) := by decide +kernel
theorem dX3_takes_92 : decode cX3_takes 92 = .ok (.iconst 0, 1) := by decide +kernel
theorem dX3_takes_93 : decode cX3_takes 93 = .ok (.ireturn, 1) := by decide +kernel
theorem dX3_brokenLinks_0 : decode cX3_brokenLinks 0 = .ok (.iconst 0, 1) := by decide +kernel
theorem dX3_brokenLinks_1 : decode cX3_brokenLinks 1 = .ok (.istore_n 2, 1) := by decide +kernel
theorem dX3_brokenLinks_2 : decode cX3_brokenLinks 2 = .ok (.iconst 0, 1) := by decide +kernel
theorem dX3_brokenLinks_3 : decode cX3_brokenLinks 3 = .ok (.istore_n 3, 1) := by decide +kernel
theorem dX3_brokenLinks_4 : decode cX3_brokenLinks 4 = .ok (.iload_n 3, 1) := by decide +kernel
theorem dX3_brokenLinks_5 : decode cX3_brokenLinks 5 = .ok (.aload_n 1, 1) := by decide +kernel
theorem dX3_brokenLinks_6 : decode cX3_brokenLinks 6 = .ok (.getfield 34, 3) := by decide +kernel
theorem dX3_brokenLinks_9 : decode cX3_brokenLinks 9 = .ok (.if_icmp .ge 24, 3) := by decide +kernel
theorem dX3_brokenLinks_12 : decode cX3_brokenLinks 12 = .ok (.aload_n 0, 1) := by decide +kernel
theorem dX3_brokenLinks_13 : decode cX3_brokenLinks 13 = .ok (.aload_n 1, 1) := by decide +kernel
theorem dX3_brokenLinks_14 : decode cX3_brokenLinks 14 = .ok (.iload_n 3, 1) := by decide +kernel
theorem dX3_brokenLinks_15 : decode cX3_brokenLinks 15 = .ok (.invokevirtual 37, 3) := by decide +kernel
theorem dX3_brokenLinks_18 : decode cX3_brokenLinks 18 = .ok (.ifCond .eq 9, 3) := by decide +kernel
theorem dX3_brokenLinks_21 : decode cX3_brokenLinks 21 = .ok (.iload_n 2, 1) := by decide +kernel
theorem dX3_brokenLinks_22 : decode cX3_brokenLinks 22 = .ok (.iconst 1, 1) := by decide +kernel
theorem dX3_brokenLinks_23 : decode cX3_brokenLinks 23 = .ok (.iload_n 3, 1) := by decide +kernel
theorem dX3_brokenLinks_24 : decode cX3_brokenLinks 24 = .ok (.ishl, 1) := by decide +kernel
theorem dX3_brokenLinks_25 : decode cX3_brokenLinks 25 = .ok (.ior, 1) := by decide +kernel
theorem dX3_brokenLinks_26 : decode cX3_brokenLinks 26 = .ok (.istore_n 2, 1) := by decide +kernel
theorem dX3_brokenLinks_27 : decode cX3_brokenLinks 27 = .ok (.iinc 3 1, 3) := by decide +kernel
theorem dX3_brokenLinks_30 : decode cX3_brokenLinks 30 = .ok (.goto (-26), 3) := by decide +kernel
theorem dX3_brokenLinks_33 : decode cX3_brokenLinks 33 = .ok (.iload_n 2, 1) := by decide +kernel
theorem dX3_brokenLinks_34 : decode cX3_brokenLinks 34 = .ok (.ireturn, 1) := by decide +kernel
theorem dX4_init_0 : decode cX4_init 0 = .ok (.aload_n 0, 1) := by decide +kernel
theorem dX4_init_1 : decode cX4_init 1 = .ok (.invokespecial 3, 3) := by decide +kernel
theorem dX4_init_4 : decode cX4_init 4 = .ok (.aload_n 0, 1) := by decide +kernel
theorem dX4_init_5 : decode cX4_init 5 = .ok (.bipush 41, 2) := by decide +kernel
theorem dX4_init_7 : decode cX4_init 7 = .ok (.newarray .int, 2) := by decide +kernel
theorem dX4_init_9 : decode cX4_init 9 = .ok (.putfield 9, 3) := by decide +kernel
theorem dX4_init_12 : decode cX4_init 12 = .ok (.return_, 1) := by decide +kernel
theorem dX4_travel_0 : decode cX4_travel 0 = .ok (.aload_n 0, 1) := by decide +kernel
theorem dX4_travel_1 : decode cX4_travel 1 = .ok (.iload_n 3, 1) := by decide +kernel
theorem dX4_travel_2 : decode cX4_travel 2 = .ok (.iload 4, 2) := by decide +kernel
theorem dX4_travel_4 : decode cX4_travel 4 = .ok (.iload 5, 2) := by decide +kernel
theorem dX4_travel_6 : decode cX4_travel 6 = .ok (.invokevirtual 15, 3) := by decide +kernel
theorem dX4_travel_9 : decode cX4_travel 9 = .ok (.iconst 0, 1) := by decide +kernel
theorem dX4_travel_10 : decode cX4_travel 10 = .ok (.istore 6, 2) := by decide +kernel
theorem dX4_travel_12 : decode cX4_travel 12 = .ok (.iload 6, 2) := by decide +kernel
theorem dX4_travel_14 : decode cX4_travel 14 = .ok (.bipush 40, 2) := by decide +kernel
theorem dX4_travel_16 : decode cX4_travel 16 = .ok (.if_icmp .ge 71, 3) := by decide +kernel
theorem dX4_travel_19 : decode cX4_travel 19 = .ok (.aload_n 0, 1) := by decide +kernel
theorem dX4_travel_20 : decode cX4_travel 20 = .ok (.getfield 19, 3) := by decide +kernel
theorem dX4_travel_23 : decode cX4_travel 23 = .ok (.iconst (-1), 1) := by decide +kernel
theorem dX4_travel_24 : decode cX4_travel 24 = .ok (.if_icmp .ne 63, 3) := by decide +kernel
theorem dX4_travel_27 : decode cX4_travel 27 = .ok (.aload_n 1, 1) := by decide +kernel
theorem dX4_travel_28 : decode cX4_travel 28 = .ok (.aload_n 0, 1) := by decide +kernel
theorem dX4_travel_29 : decode cX4_travel 29 = .ok (.getfield 23, 3) := by decide +kernel
theorem dX4_travel_32 : decode cX4_travel 32 = .ok (.aload_n 0, 1) := by decide +kernel
theorem dX4_travel_33 : decode cX4_travel 33 = .ok (.getfield 26, 3) := by decide +kernel
theorem dX4_travel_36 : decode cX4_travel 36 = .ok (.invokevirtual 29, 3) := by decide +kernel
theorem dX4_travel_39 : decode cX4_travel 39 = .ok (.istore 7, 2) := by decide +kernel
theorem dX4_travel_41 : decode cX4_travel 41 = .ok (.iload 7, 2) := by decide +kernel
theorem dX4_travel_43 : decode cX4_travel 43 = .ok (.iconst (-1), 1) := by decide +kernel
theorem dX4_travel_44 : decode cX4_travel 44 = .ok (.if_icmp .eq 30, 3) := by decide +kernel
theorem dX4_travel_47 : decode cX4_travel 47 = .ok (.aload_n 0, 1) := by decide +kernel
theorem dX4_travel_48 : decode cX4_travel 48 = .ok (.getfield 35, 3) := by decide +kernel
theorem dX4_travel_51 : decode cX4_travel 51 = .ok (.iconst (-1), 1) := by decide +kernel
theorem dX4_travel_52 : decode cX4_travel 52 = .ok (.if_icmp .ne 22, 3) := by decide +kernel
theorem dX4_travel_55 : decode cX4_travel 55 = .ok (.aload_n 0, 1) := by decide +kernel
theorem dX4_travel_56 : decode cX4_travel 56 = .ok (.aload_n 1, 1) := by decide +kernel
theorem dX4_travel_57 : decode cX4_travel 57 = .ok (.iload 7, 2) := by decide +kernel
theorem dX4_travel_59 : decode cX4_travel 59 = .ok (.invokevirtual 38, 3) := by decide +kernel
theorem dX4_travel_62 : decode cX4_travel 62 = .ok (.ifCond .eq 12, 3) := by decide +kernel
theorem dX4_travel_65 : decode cX4_travel 65 = .ok (.aload_n 0, 1) := by decide +kernel
theorem dX4_travel_66 : decode cX4_travel 66 = .ok (.aload_n 1, 1) := by decide +kernel
theorem dX4_travel_67 : decode cX4_travel 67 = .ok (.aload_n 2, 1) := by decide +kernel
theorem dX4_travel_68 : decode cX4_travel 68 = .ok (.invokevirtual 42, 3) := by decide +kernel
theorem dX4_travel_71 : decode cX4_travel 71 = .ok (.goto 10, 3) := by decide +kernel
theorem dX4_travel_74 : decode cX4_travel 74 = .ok (.aload_n 0, 1) := by decide +kernel
theorem dX4_travel_75 : decode cX4_travel 75 = .ok (.aload_n 1, 1) := by decide +kernel
theorem dX4_travel_76 : decode cX4_travel 76 = .ok (.iload 7, 2) := by decide +kernel
theorem dX4_travel_78 : decode cX4_travel 78 = .ok (.invokevirtual 46, 3) := by decide +kernel
theorem dX4_travel_81 : decode cX4_travel 81 = .ok (.iinc 6 1, 3) := by decide +kernel
theorem dX4_travel_84 : decode cX4_travel 84 = .ok (.goto (-72), 3) := by decide +kernel
theorem dX4_travel_87 : decode cX4_travel 87 = .ok (.return_, 1) := by decide +kernel
theorem dX4_stop_0 : decode cX4_stop 0 = .ok (.iload_n 1, 1) := by decide +kernel
theorem dX4_stop_1 : decode cX4_stop 1 = .ok (.ifCond .lt 20, 3) := by decide +kernel
theorem dX4_stop_4 : decode cX4_stop 4 = .ok (.iload_n 1, 1) := by decide +kernel
theorem dX4_stop_5 : decode cX4_stop 5 = .ok (.aload_n 0, 1) := by decide +kernel
theorem dX4_stop_6 : decode cX4_stop 6 = .ok (.getfield 50, 3) := by decide +kernel
theorem dX4_stop_9 : decode cX4_stop 9 = .ok (.if_icmp .gt 12, 3) := by decide +kernel
theorem dX4_stop_12 : decode cX4_stop 12 = .ok (.aload_n 0, 1) := by decide +kernel
theorem dX4_stop_13 : decode cX4_stop 13 = .ok (.getfield 9, 3) := by decide +kernel
theorem dX4_stop_16 : decode cX4_stop 16 = .ok (.iload_n 1, 1) := by decide +kernel
theorem dX4_stop_17 : decode cX4_stop 17 = .ok (.iaload, 1) := by decide +kernel
theorem dX4_stop_18 : decode cX4_stop 18 = .ok (.goto 4, 3) := by decide +kernel
theorem dX4_stop_21 : decode cX4_stop 21 = .ok (.iconst (-1), 1) := by decide +kernel
theorem dX4_stop_22 : decode cX4_stop 22 = .ok (.ireturn, 1) := by decide +kernel
theorem dX4_begin_0 : decode cX4_begin 0 = .ok (.aload_n 0, 1) := by decide +kernel
theorem dX4_begin_1 : decode cX4_begin 1 = .ok (.iconst (-1), 1) := by decide +kernel
theorem dX4_begin_2 : decode cX4_begin 2 = .ok (.putfield 19, 3) := by decide +kernel
theorem dX4_begin_5 : decode cX4_begin 5 = .ok (.aload_n 0, 1) := by decide +kernel
theorem dX4_begin_6 : decode cX4_begin 6 = .ok (.iconst 0, 1) := by decide +kernel
theorem dX4_begin_7 : decode cX4_begin 7 = .ok (.putfield 50, 3) := by decide +kernel
theorem dX4_begin_10 : decode cX4_begin 10 = .ok (.aload_n 0, 1) := by decide +kernel
theorem dX4_begin_11 : decode cX4_begin 11 = .ok (.iconst 0, 1) := by decide +kernel
theorem dX4_begin_12 : decode cX4_begin 12 = .ok (.putfield 53, 3) := by decide +kernel
theorem dX4_begin_15 : decode cX4_begin 15 = .ok (.aload_n 0, 1) := by decide +kernel
theorem dX4_begin_16 : decode cX4_begin 16 = .ok (.iconst (-1), 1) := by decide +kernel
theorem dX4_begin_17 : decode cX4_begin 17 = .ok (.putfield 35, 3) := by decide +kernel
theorem dX4_begin_20 : decode cX4_begin 20 = .ok (.aload_n 0, 1) := by decide +kernel
theorem dX4_begin_21 : decode cX4_begin 21 = .ok (.iload_n 2, 1) := by decide +kernel
theorem dX4_begin_22 : decode cX4_begin 22 = .ok (.putfield 23, 3) := by decide +kernel
theorem dX4_begin_25 : decode cX4_begin 25 = .ok (.aload_n 0, 1) := by decide +kernel
theorem dX4_begin_26 : decode cX4_begin 26 = .ok (.iload_n 3, 1) := by decide +kernel
theorem dX4_begin_27 : decode cX4_begin 27 = .ok (.putfield 26, 3) := by decide +kernel
theorem dX4_begin_30 : decode cX4_begin 30 = .ok (.aload_n 0, 1) := by decide +kernel
theorem dX4_begin_31 : decode cX4_begin 31 = .ok (.iload_n 1, 1) := by decide +kernel
theorem dX4_begin_32 : decode cX4_begin 32 = .ok (.putfield 56, 3) := by decide +kernel
theorem dX4_begin_35 : decode cX4_begin 35 = .ok (.aload_n 0, 1) := by decide +kernel
theorem dX4_begin_36 : decode cX4_begin 36 = .ok (.getfield 9, 3) := by decide +kernel
theorem dX4_begin_39 : decode cX4_begin 39 = .ok (.iconst 0, 1) := by decide +kernel
theorem dX4_begin_40 : decode cX4_begin 40 = .ok (.iload_n 2, 1) := by decide +kernel
theorem dX4_begin_41 : decode cX4_begin 41 = .ok (.iastore, 1) := by decide +kernel
theorem dX4_begin_42 : decode cX4_begin 42 = .ok (.return_, 1) := by decide +kernel
theorem dX4_isBlocked_0 : decode cX4_isBlocked 0 = .ok (.aload_n 1, 1) := by decide +kernel
theorem dX4_isBlocked_1 : decode cX4_isBlocked 1 = .ok (.aload_n 0, 1) := by decide +kernel
theorem dX4_isBlocked_2 : decode cX4_isBlocked 2 = .ok (.getfield 23, 3) := by decide +kernel
theorem dX4_isBlocked_5 : decode cX4_isBlocked 5 = .ok (.iload_n 2, 1) := by decide +kernel
theorem dX4_isBlocked_6 : decode cX4_isBlocked 6 = .ok (.invokevirtual 59, 3) := by decide +kernel
theorem dX4_isBlocked_9 : decode cX4_isBlocked 9 = .ok (.istore_n 3, 1) := by decide +kernel
theorem dX4_isBlocked_10 : decode cX4_isBlocked 10 = .ok (.iload_n 3, 1) := by decide +kernel
theorem dX4_isBlocked_11 : decode cX4_isBlocked 11 = .ok (.iconst (-1), 1) := by decide +kernel
theorem dX4_isBlocked_12 : decode cX4_isBlocked 12 = .ok (.if_icmp .eq 14, 3) := by decide +kernel
theorem dX4_isBlocked_15 : decode cX4_isBlocked 15 = .ok (.aload_n 0, 1) := by decide +kernel
theorem dX4_isBlocked_16 : decode cX4_isBlocked 16 = .ok (.getfield 56, 3) := by decide +kernel
theorem dX4_isBlocked_19 : decode cX4_isBlocked 19 = .ok (.iload_n 3, 1) := by decide +kernel
theorem dX4_isBlocked_20 : decode cX4_isBlocked 20 = .ok (.invokestatic 62, 3) := by decide +kernel
theorem dX4_isBlocked_23 : decode cX4_isBlocked 23 = .ok (.ifCond .eq 7, 3) := by decide +kernel
theorem dX4_isBlocked_26 : decode cX4_isBlocked 26 = .ok (.iconst 1, 1) := by decide +kernel
theorem dX4_isBlocked_27 : decode cX4_isBlocked 27 = .ok (.goto 4, 3) := by decide +kernel
theorem dX4_isBlocked_30 : decode cX4_isBlocked 30 = .ok (.iconst 0, 1) := by decide +kernel
theorem dX4_isBlocked_31 : decode cX4_isBlocked 31 = .ok (.ireturn, 1) := by decide +kernel
theorem dX4_go_0 : decode cX4_go 0 = .ok (.aload_n 0, 1) := by decide +kernel
theorem dX4_go_1 : decode cX4_go 1 = .ok (.aload_n 1, 1) := by decide +kernel
theorem dX4_go_2 : decode cX4_go 2 = .ok (.iload_n 2, 1) := by decide +kernel
theorem dX4_go_3 : decode cX4_go 3 = .ok (.invokevirtual 38, 3) := by decide +kernel
theorem dX4_go_6 : decode cX4_go 6 = .ok (.ifCond .ne 12, 3) := by decide +kernel
theorem dX4_go_9 : decode cX4_go 9 = .ok (.aload_n 0, 1) := by decide +kernel
theorem dX4_go_10 : decode cX4_go 10 = .ok (.getfield 50, 3) := by decide +kernel
theorem dX4_go_13 : decode cX4_go 13 = .ok (.bipush 40, 2) := by decide +kernel
theorem dX4_go_15 : decode cX4_go 15 = .ok (.if_icmp .lt 9, 3) := by decide +kernel
theorem dX4_go_18 : decode cX4_go 18 = .ok (.aload_n 0, 1) := by decide +kernel
theorem dX4_go_19 : decode cX4_go 19 = .ok (.iconst 1, 1) := by decide +kernel
theorem dX4_go_20 : decode cX4_go 20 = .ok (.putfield 19, 3) := by decide +kernel
theorem dX4_go_23 : decode cX4_go 23 = .ok (.return_, 1) := by decide +kernel
theorem dX4_go_24 : decode cX4_go 24 = .ok (.aload_n 0, 1) := by decide +kernel
theorem dX4_go_25 : decode cX4_go 25 = .ok (.dup, 1) := by decide +kernel
theorem dX4_go_26 : decode cX4_go 26 = .ok (.getfield 53, 3) := by decide +kernel
theorem dX4_go_29 : decode cX4_go 29 = .ok (.aload_n 1, 1) := by decide +kernel
theorem dX4_go_30 : decode cX4_go 30 = .ok (.aload_n 0, 1) := by decide +kernel
theorem dX4_go_31 : decode cX4_go 31 = .ok (.getfield 23, 3) := by decide +kernel
theorem dX4_go_34 : decode cX4_go 34 = .ok (.iload_n 2, 1) := by decide +kernel
theorem dX4_go_35 : decode cX4_go 35 = .ok (.invokevirtual 66, 3) := by decide +kernel
theorem dX4_go_38 : decode cX4_go 38 = .ok (.iadd, 1) := by decide +kernel
theorem dX4_go_39 : decode cX4_go 39 = .ok (.putfield 53, 3) := by decide +kernel
theorem dX4_go_42 : decode cX4_go 42 = .ok (.aload_n 0, 1) := by decide +kernel
theorem dX4_go_43 : decode cX4_go 43 = .ok (.iload_n 2, 1) := by decide +kernel
theorem dX4_go_44 : decode cX4_go 44 = .ok (.putfield 23, 3) := by decide +kernel
theorem dX4_go_47 : decode cX4_go 47 = .ok (.aload_n 0, 1) := by decide +kernel
theorem dX4_go_48 : decode cX4_go 48 = .ok (.dup, 1) := by decide +kernel
theorem dX4_go_49 : decode cX4_go 49 = .ok (.getfield 50, 3) := by decide +kernel
theorem dX4_go_52 : decode cX4_go 52 = .ok (.iconst 1, 1) := by decide +kernel
theorem dX4_go_53 : decode cX4_go 53 = .ok (.iadd, 1) := by decide +kernel
theorem dX4_go_54 : decode cX4_go 54 = .ok (.putfield 50, 3) := by decide +kernel
theorem dX4_go_57 : decode cX4_go 57 = .ok (.aload_n 0, 1) := by decide +kernel
theorem dX4_go_58 : decode cX4_go 58 = .ok (.getfield 9, 3) := by decide +kernel
theorem dX4_go_61 : decode cX4_go 61 = .ok (.aload_n 0, 1) := by decide +kernel
theorem dX4_go_62 : decode cX4_go 62 = .ok (.getfield 50, 3) := by decide +kernel
theorem dX4_go_65 : decode cX4_go 65 = .ok (.iload_n 2, 1) := by decide +kernel
theorem dX4_go_66 : decode cX4_go 66 = .ok (.iastore, 1) := by decide +kernel
theorem dX4_go_67 : decode cX4_go 67 = .ok (.aload_n 0, 1) := by decide +kernel
theorem dX4_go_68 : decode cX4_go 68 = .ok (.getfield 23, 3) := by decide +kernel
theorem dX4_go_71 : decode cX4_go 71 = .ok (.aload_n 0, 1) := by decide +kernel
theorem dX4_go_72 : decode cX4_go 72 = .ok (.getfield 26, 3) := by decide +kernel
theorem dX4_go_75 : decode cX4_go 75 = .ok (.if_icmp .ne 11, 3) := by decide +kernel
theorem dX4_go_78 : decode cX4_go 78 = .ok (.aload_n 0, 1) := by decide +kernel
theorem dX4_go_79 : decode cX4_go 79 = .ok (.iconst 0, 1) := by decide +kernel
theorem dX4_go_80 : decode cX4_go 80 = .ok (.putfield 19, 3) := by decide +kernel
theorem dX4_go_83 : decode cX4_go 83 = .ok (.goto 17, 3) := by decide +kernel
theorem dX4_go_86 : decode cX4_go 86 = .ok (.aload_n 0, 1) := by decide +kernel
theorem dX4_go_87 : decode cX4_go 87 = .ok (.getfield 50, 3) := by decide +kernel
theorem dX4_go_90 : decode cX4_go 90 = .ok (.bipush 40, 2) := by decide +kernel
theorem dX4_go_92 : decode cX4_go 92 = .ok (.if_icmp .ne 8, 3) := by decide +kernel
theorem dX4_go_95 : decode cX4_go 95 = .ok (.aload_n 0, 1) := by decide +kernel
theorem dX4_go_96 : decode cX4_go 96 = .ok (.iconst 2, 1) := by decide +kernel
theorem dX4_go_97 : decode cX4_go 97 = .ok (.putfield 19, 3) := by decide +kernel
theorem dX4_go_100 : decode cX4_go 100 = .ok (.return_, 1) := by decide +kernel
theorem dX4_turnAside_0 : decode cX4_turnAside 0 = .ok (.aload_n 0, 1) := by decide +kernel
theorem dX4_turnAside_1 : decode cX4_turnAside 1 = .ok (.aload_n 0, 1) := by decide +kernel
theorem dX4_turnAside_2 : decode cX4_turnAside 2 = .ok (.getfield 23, 3) := by decide +kernel
theorem dX4_turnAside_5 : decode cX4_turnAside 5 = .ok (.putfield 35, 3) := by decide +kernel
theorem dX4_turnAside_8 : decode cX4_turnAside 8 = .ok (.aload_n 2, 1) := by decide +kernel
theorem dX4_turnAside_9 : decode cX4_turnAside 9 = .ok (.aload_n 1, 1) := by decide +kernel
theorem dX4_turnAside_10 : decode cX4_turnAside 10 = .ok (.aload_n 0, 1) := by decide +kernel
theorem dX4_turnAside_11 : decode cX4_turnAside 11 = .ok (.getfield 23, 3) := by decide +kernel
theorem dX4_turnAside_14 : decode cX4_turnAside 14 = .ok (.aload_n 0, 1) := by decide +kernel
theorem dX4_turnAside_15 : decode cX4_turnAside 15 = .ok (.getfield 26, 3) := by decide +kernel
theorem dX4_turnAside_18 : decode cX4_turnAside 18 = .ok (.invokevirtual 69, 3) := by decide +kernel
theorem dX4_turnAside_21 : decode cX4_turnAside 21 = .ok (.ifCond .eq 11, 3) := by decide +kernel
theorem dX4_turnAside_24 : decode cX4_turnAside 24 = .ok (.aload_n 2, 1) := by decide +kernel
theorem dX4_turnAside_25 : decode cX4_turnAside 25 = .ok (.aload_n 1, 1) := by decide +kernel
theorem dX4_turnAside_26 : decode cX4_turnAside 26 = .ok (.invokevirtual 75, 3) := by decide +kernel
theorem dX4_turnAside_29 : decode cX4_turnAside 29 = .ok (.goto 4, 3) := by decide +kernel
theorem dX4_turnAside_32 : decode cX4_turnAside 32 = .ok (.iconst 0, 1) := by decide +kernel
theorem dX4_turnAside_33 : decode cX4_turnAside 33 = .ok (.istore_n 3, 1) := by decide +kernel
theorem dX4_turnAside_34 : decode cX4_turnAside 34 = .ok (.iload_n 3, 1) := by decide +kernel
theorem dX4_turnAside_35 : decode cX4_turnAside 35 = .ok (.tableswitch 72 1 3 #[25, 37, 46], 25) := by decide +kernel
theorem dX4_turnAside_60 : decode cX4_turnAside 60 = .ok (.aload_n 0, 1) := by decide +kernel
theorem dX4_turnAside_61 : decode cX4_turnAside 61 = .ok (.aload_n 1, 1) := by decide +kernel
theorem dX4_turnAside_62 : decode cX4_turnAside 62 = .ok (.aload_n 2, 1) := by decide +kernel
theorem dX4_turnAside_63 : decode cX4_turnAside 63 = .ok (.getfield 79, 3) := by decide +kernel
theorem dX4_turnAside_66 : decode cX4_turnAside 66 = .ok (.invokevirtual 46, 3) := by decide +kernel
theorem dX4_turnAside_69 : decode cX4_turnAside 69 = .ok (.goto 43, 3) := by decide +kernel
theorem dX4_turnAside_72 : decode cX4_turnAside 72 = .ok (.aload_n 0, 1) := by decide +kernel
theorem dX4_turnAside_73 : decode cX4_turnAside 73 = .ok (.aload_n 1, 1) := by decide +kernel
theorem dX4_turnAside_74 : decode cX4_turnAside 74 = .ok (.aload_n 2, 1) := by decide +kernel
theorem dX4_turnAside_75 : decode cX4_turnAside 75 = .ok (.invokevirtual 82, 3) := by decide +kernel
theorem dX4_turnAside_78 : decode cX4_turnAside 78 = .ok (.goto 34, 3) := by decide +kernel
theorem dX4_turnAside_81 : decode cX4_turnAside 81 = .ok (.aload_n 0, 1) := by decide +kernel
theorem dX4_turnAside_82 : decode cX4_turnAside 82 = .ok (.aload_n 1, 1) := by decide +kernel
theorem dX4_turnAside_83 : decode cX4_turnAside 83 = .ok (.aload_n 2, 1) := by decide +kernel
theorem dX4_turnAside_84 : decode cX4_turnAside 84 = .ok (.invokevirtual 82, 3) := by decide +kernel
theorem dX4_turnAside_87 : decode cX4_turnAside 87 = .ok (.aload_n 0, 1) := by decide +kernel
theorem dX4_turnAside_88 : decode cX4_turnAside 88 = .ok (.getfield 19, 3) := by decide +kernel
theorem dX4_turnAside_91 : decode cX4_turnAside 91 = .ok (.iconst (-1), 1) := by decide +kernel
theorem dX4_turnAside_92 : decode cX4_turnAside 92 = .ok (.if_icmp .ne 20, 3) := by decide +kernel
theorem dX4_turnAside_95 : decode cX4_turnAside 95 = .ok (.aload_n 0, 1) := by decide +kernel
theorem dX4_turnAside_96 : decode cX4_turnAside 96 = .ok (.aload_n 1, 1) := by decide +kernel
theorem dX4_turnAside_97 : decode cX4_turnAside 97 = .ok (.aload_n 2, 1) := by decide +kernel
theorem dX4_turnAside_98 : decode cX4_turnAside 98 = .ok (.getfield 85, 3) := by decide +kernel
theorem dX4_turnAside_101 : decode cX4_turnAside 101 = .ok (.invokevirtual 46, 3) := by decide +kernel
theorem dX4_turnAside_104 : decode cX4_turnAside 104 = .ok (.goto 8, 3) := by decide +kernel
theorem dX4_turnAside_107 : decode cX4_turnAside 107 = .ok (.aload_n 0, 1) := by decide +kernel
theorem dX4_turnAside_108 : decode cX4_turnAside 108 = .ok (.iconst 1, 1) := by decide +kernel
theorem dX4_turnAside_109 : decode cX4_turnAside 109 = .ok (.putfield 19, 3) := by decide +kernel
theorem dX4_turnAside_112 : decode cX4_turnAside 112 = .ok (.return_, 1) := by decide +kernel
theorem dX4_goUpTo_0 : decode cX4_goUpTo 0 = .ok (.aload_n 2, 1) := by decide +kernel
theorem dX4_goUpTo_1 : decode cX4_goUpTo 1 = .ok (.getfield 79, 3) := by decide +kernel
theorem dX4_goUpTo_4 : decode cX4_goUpTo 4 = .ok (.istore_n 3, 1) := by decide +kernel
theorem dX4_goUpTo_5 : decode cX4_goUpTo 5 = .ok (.aload_n 0, 1) := by decide +kernel
theorem dX4_goUpTo_6 : decode cX4_goUpTo 6 = .ok (.aload_n 1, 1) := by decide +kernel
theorem dX4_goUpTo_7 : decode cX4_goUpTo 7 = .ok (.aload_n 2, 1) := by decide +kernel
theorem dX4_goUpTo_8 : decode cX4_goUpTo 8 = .ok (.aload_n 1, 1) := by decide +kernel
theorem dX4_goUpTo_9 : decode cX4_goUpTo 9 = .ok (.iload_n 3, 1) := by decide +kernel
theorem dX4_goUpTo_10 : decode cX4_goUpTo 10 = .ok (.invokevirtual 88, 3) := by decide +kernel
theorem dX4_goUpTo_13 : decode cX4_goUpTo 13 = .ok (.invokevirtual 46, 3) := by decide +kernel
theorem dX4_goUpTo_16 : decode cX4_goUpTo 16 = .ok (.iconst 0, 1) := by decide +kernel
theorem dX4_goUpTo_17 : decode cX4_goUpTo 17 = .ok (.istore 4, 2) := by decide +kernel
theorem dX4_goUpTo_19 : decode cX4_goUpTo 19 = .ok (.iload 4, 2) := by decide +kernel
theorem dX4_goUpTo_21 : decode cX4_goUpTo 21 = .ok (.bipush 40, 2) := by decide +kernel
theorem dX4_goUpTo_23 : decode cX4_goUpTo 23 = .ok (.if_icmp .ge 39, 3) := by decide +kernel
theorem dX4_goUpTo_26 : decode cX4_goUpTo 26 = .ok (.aload_n 0, 1) := by decide +kernel
theorem dX4_goUpTo_27 : decode cX4_goUpTo 27 = .ok (.getfield 19, 3) := by decide +kernel
theorem dX4_goUpTo_30 : decode cX4_goUpTo 30 = .ok (.iconst (-1), 1) := by decide +kernel
theorem dX4_goUpTo_31 : decode cX4_goUpTo 31 = .ok (.if_icmp .ne 31, 3) := by decide +kernel
theorem dX4_goUpTo_34 : decode cX4_goUpTo 34 = .ok (.aload_n 0, 1) := by decide +kernel
theorem dX4_goUpTo_35 : decode cX4_goUpTo 35 = .ok (.getfield 23, 3) := by decide +kernel
theorem dX4_goUpTo_38 : decode cX4_goUpTo 38 = .ok (.iload_n 3, 1) := by decide +kernel
theorem dX4_goUpTo_39 : decode cX4_goUpTo 39 = .ok (.if_icmp .eq 23, 3) := by decide +kernel
theorem dX4_goUpTo_42 : decode cX4_goUpTo 42 = .ok (.aload_n 0, 1) := by decide +kernel
theorem dX4_goUpTo_43 : decode cX4_goUpTo 43 = .ok (.aload_n 1, 1) := by decide +kernel
theorem dX4_goUpTo_44 : decode cX4_goUpTo 44 = .ok (.aload_n 1, 1) := by decide +kernel
theorem dX4_goUpTo_45 : decode cX4_goUpTo 45 = .ok (.aload_n 0, 1) := by decide +kernel
theorem dX4_goUpTo_46 : decode cX4_goUpTo 46 = .ok (.getfield 23, 3) := by decide +kernel
theorem dX4_goUpTo_49 : decode cX4_goUpTo 49 = .ok (.iload_n 3, 1) := by decide +kernel
theorem dX4_goUpTo_50 : decode cX4_goUpTo 50 = .ok (.invokevirtual 29, 3) := by decide +kernel
theorem dX4_goUpTo_53 : decode cX4_goUpTo 53 = .ok (.invokevirtual 46, 3) := by decide +kernel
theorem dX4_goUpTo_56 : decode cX4_goUpTo 56 = .ok (.iinc 4 1, 3) := by decide +kernel
theorem dX4_goUpTo_59 : decode cX4_goUpTo 59 = .ok (.goto (-40), 3) := by decide +kernel
theorem dX4_goUpTo_62 : decode cX4_goUpTo 62 = .ok (.return_, 1) := by decide +kernel
theorem dX5_init_0 : decode cX5_init 0 = .ok (.aload_n 0, 1) := by decide +kernel
theorem dX5_init_1 : decode cX5_init 1 = .ok (.invokespecial 3, 3) := by decide +kernel
theorem dX5_init_4 : decode cX5_init 4 = .ok (.return_, 1) := by decide +kernel
theorem dX5_aim_0 : decode cX5_aim 0 = .ok (.aload_n 1, 1) := by decide +kernel
theorem dX5_aim_1 : decode cX5_aim 1 = .ok (.iload_n 2, 1) := by decide +kernel
theorem dX5_aim_2 : decode cX5_aim 2 = .ok (.iload_n 3, 1) := by decide +kernel
theorem dX5_aim_3 : decode cX5_aim 3 = .ok (.invokevirtual 9, 3) := by decide +kernel
theorem dX5_aim_6 : decode cX5_aim 6 = .ok (.istore 4, 2) := by decide +kernel
theorem dX5_aim_8 : decode cX5_aim 8 = .ok (.aload_n 1, 1) := by decide +kernel
theorem dX5_aim_9 : decode cX5_aim 9 = .ok (.iload_n 2, 1) := by decide +kernel
theorem dX5_aim_10 : decode cX5_aim 10 = .ok (.iload 4, 2) := by decide +kernel
theorem dX5_aim_12 : decode cX5_aim 12 = .ok (.invokevirtual 15, 3) := by decide +kernel
theorem dX5_aim_15 : decode cX5_aim 15 = .ok (.istore 5, 2) := by decide +kernel
theorem dX5_aim_17 : decode cX5_aim 17 = .ok (.iload 5, 2) := by decide +kernel
theorem dX5_aim_19 : decode cX5_aim 19 = .ok (.iconst (-1), 1) := by decide +kernel
theorem dX5_aim_20 : decode cX5_aim 20 = .ok (.if_icmp .ne 5, 3) := by decide +kernel
theorem dX5_aim_23 : decode cX5_aim 23 = .ok (.iconst 0, 1) := by decide +kernel
theorem dX5_aim_24 : decode cX5_aim 24 = .ok (.ireturn, 1) := by decide +kernel
theorem dX5_aim_25 : decode cX5_aim 25 = .ok (.aload_n 0, 1) := by decide +kernel
theorem dX5_aim_26 : decode cX5_aim 26 = .ok (.iload_n 2, 1) := by decide +kernel
theorem dX5_aim_27 : decode cX5_aim 27 = .ok (.putfield 18, 3) := by decide +kernel
theorem dX5_aim_30 : decode cX5_aim 30 = .ok (.aload_n 0, 1) := by decide +kernel
theorem dX5_aim_31 : decode cX5_aim 31 = .ok (.iload_n 3, 1) := by decide +kernel
theorem dX5_aim_32 : decode cX5_aim 32 = .ok (.putfield 24, 3) := by decide +kernel
theorem dX5_aim_35 : decode cX5_aim 35 = .ok (.aload_n 0, 1) := by decide +kernel
theorem dX5_aim_36 : decode cX5_aim 36 = .ok (.iload 4, 2) := by decide +kernel
theorem dX5_aim_38 : decode cX5_aim 38 = .ok (.putfield 27, 3) := by decide +kernel
theorem dX5_aim_41 : decode cX5_aim 41 = .ok (.aload_n 0, 1) := by decide +kernel
theorem dX5_aim_42 : decode cX5_aim 42 = .ok (.iload 5, 2) := by decide +kernel
theorem dX5_aim_44 : decode cX5_aim 44 = .ok (.putfield 30, 3) := by decide +kernel
theorem dX5_aim_47 : decode cX5_aim 47 = .ok (.aload_n 0, 1) := by decide +kernel
theorem dX5_aim_48 : decode cX5_aim 48 = .ok (.aload_n 1, 1) := by decide +kernel
theorem dX5_aim_49 : decode cX5_aim 49 = .ok (.getfield 33, 3) := by decide +kernel
theorem dX5_aim_52 : decode cX5_aim 52 = .ok (.iload 5, 2) := by decide +kernel
theorem dX5_aim_54 : decode cX5_aim 54 = .ok (.iaload, 1) := by decide +kernel
theorem dX5_aim_55 : decode cX5_aim 55 = .ok (.putfield 37, 3) := by decide +kernel
theorem dX5_aim_58 : decode cX5_aim 58 = .ok (.aload_n 0, 1) := by decide +kernel
theorem dX5_aim_59 : decode cX5_aim 59 = .ok (.invokevirtual 40, 3) := by decide +kernel
theorem dX5_aim_62 : decode cX5_aim 62 = .ok (.iconst 0, 1) := by decide +kernel
theorem dX5_aim_63 : decode cX5_aim 63 = .ok (.istore 6, 2) := by decide +kernel
theorem dX5_aim_65 : decode cX5_aim 65 = .ok (.iload 6, 2) := by decide +kernel
theorem dX5_aim_67 : decode cX5_aim 67 = .ok (.aload_n 1, 1) := by decide +kernel
theorem dX5_aim_68 : decode cX5_aim 68 = .ok (.getfield 43, 3) := by decide +kernel
theorem dX5_aim_71 : decode cX5_aim 71 = .ok (.if_icmp .ge 88, 3) := by decide +kernel
theorem dX5_aim_74 : decode cX5_aim 74 = .ok (.iload 6, 2) := by decide +kernel
theorem dX5_aim_76 : decode cX5_aim 76 = .ok (.aload_n 0, 1) := by decide +kernel
theorem dX5_aim_77 : decode cX5_aim 77 = .ok (.getfield 18, 3) := by decide +kernel
theorem dX5_aim_80 : decode cX5_aim 80 = .ok (.if_icmp .eq 33, 3) := by decide +kernel
theorem dX5_aim_83 : decode cX5_aim 83 = .ok (.aload_n 1, 1) := by decide +kernel
theorem dX5_aim_84 : decode cX5_aim 84 = .ok (.getfield 46, 3) := by decide +kernel
theorem dX5_aim_87 : decode cX5_aim 87 = .ok (.aload_n 0, 1) := by decide +kernel
theorem dX5_aim_88 : decode cX5_aim 88 = .ok (.getfield 18, 3) := by decide +kernel
theorem dX5_aim_91 : decode cX5_aim 91 = .ok (.aaload, 1) := by decide +kernel
theorem dX5_aim_92 : decode cX5_aim 92 = .ok (.iload 6, 2) := by decide +kernel
theorem dX5_aim_94 : decode cX5_aim 94 = .ok (.iaload, 1) := by decide +kernel
theorem dX5_aim_95 : decode cX5_aim 95 = .ok (.ldc 50, 2) := by decide +kernel
theorem dX5_aim_97 : decode cX5_aim 97 = .ok (.if_icmp .ge 16, 3) := by decide +kernel
theorem dX5_aim_100 : decode cX5_aim 100 = .ok (.aload_n 0, 1) := by decide +kernel
theorem dX5_aim_101 : decode cX5_aim 101 = .ok (.dup, 1) := by decide +kernel
theorem dX5_aim_102 : decode cX5_aim 102 = .ok (.getfield 51, 3) := by decide +kernel
theorem dX5_aim_105 : decode cX5_aim 105 = .ok (.iconst 1, 1) := by decide +kernel
theorem dX5_aim_106 : decode cX5_aim 106 = .ok (.iload 6, 2) := by decide +kernel
theorem dX5_aim_108 : decode cX5_aim 108 = .ok (.ishl, 1) := by decide +kernel
theorem dX5_aim_109 : decode cX5_aim 109 = .ok (.ior, 1) := by decide +kernel
theorem dX5_aim_110 : decode cX5_aim 110 = .ok (.putfield 51, 3) := by decide +kernel
theorem dX5_aim_113 : decode cX5_aim 113 = .ok (.iload 6, 2) := by decide +kernel
theorem dX5_aim_115 : decode cX5_aim 115 = .ok (.aload_n 0, 1) := by decide +kernel
theorem dX5_aim_116 : decode cX5_aim 116 = .ok (.getfield 27, 3) := by decide +kernel
theorem dX5_aim_119 : decode cX5_aim 119 = .ok (.if_icmp .eq 34, 3) := by decide +kernel
theorem dX5_aim_122 : decode cX5_aim 122 = .ok (.aload_n 1, 1) := by decide +kernel
theorem dX5_aim_123 : decode cX5_aim 123 = .ok (.aload_n 0, 1) := by decide +kernel
theorem dX5_aim_124 : decode cX5_aim 124 = .ok (.getfield 18, 3) := by decide +kernel
theorem dX5_aim_127 : decode cX5_aim 127 = .ok (.iload 6, 2) := by decide +kernel
theorem dX5_aim_129 : decode cX5_aim 129 = .ok (.invokevirtual 15, 3) := by decide +kernel
theorem dX5_aim_132 : decode cX5_aim 132 = .ok (.iconst (-1), 1) := by decide +kernel
theorem dX5_aim_133 : decode cX5_aim 133 = .ok (.if_icmp .eq 20, 3) := by decide +kernel
theorem dX5_aim_136 : decode cX5_aim 136 = .ok (.aload_n 0, 1) := by decide +kernel
theorem dX5_aim_137 : decode cX5_aim 137 = .ok (.aload_n 1, 1) := by decide +kernel
theorem dX5_aim_138 : decode cX5_aim 138 = .ok (.iload 6, 2) := by decide +kernel
theorem dX5_aim_140 : decode cX5_aim 140 = .ok (.aload_n 1, 1) := by decide +kernel
theorem dX5_aim_141 : decode cX5_aim 141 = .ok (.aload_n 0, 1) := by decide +kernel
theorem dX5_aim_142 : decode cX5_aim 142 = .ok (.getfield 18, 3) := by decide +kernel
theorem dX5_aim_145 : decode cX5_aim 145 = .ok (.iload 6, 2) := by decide +kernel
theorem dX5_aim_147 : decode cX5_aim 147 = .ok (.invokevirtual 15, 3) := by decide +kernel
theorem dX5_aim_150 : decode cX5_aim 150 = .ok (.invokevirtual 54, 3) := by decide +kernel
theorem dX5_aim_153 : decode cX5_aim 153 = .ok (.iinc 6 1, 3) := by decide +kernel
theorem dX5_aim_156 : decode cX5_aim 156 = .ok (.goto (-91), 3) := by decide +kernel
theorem dX5_aim_159 : decode cX5_aim 159 = .ok (.iconst 1, 1) := by decide +kernel
theorem dX5_aim_160 : decode cX5_aim 160 = .ok (.ireturn, 1) := by decide +kernel
theorem dX5_forgetOnes_0 : decode cX5_forgetOnes 0 = .ok (.aload_n 0, 1) := by decide +kernel
theorem dX5_forgetOnes_1 : decode cX5_forgetOnes 1 = .ok (.iconst 0, 1) := by decide +kernel
theorem dX5_forgetOnes_2 : decode cX5_forgetOnes 2 = .ok (.putfield 51, 3) := by decide +kernel
theorem dX5_forgetOnes_5 : decode cX5_forgetOnes 5 = .ok (.aload_n 0, 1) := by decide +kernel
theorem dX5_forgetOnes_6 : decode cX5_forgetOnes 6 = .ok (.iconst 0, 1) := by decide +kernel
theorem dX5_forgetOnes_7 : decode cX5_forgetOnes 7 = .ok (.putfield 58, 3) := by decide +kernel
theorem dX5_forgetOnes_10 : decode cX5_forgetOnes 10 = .ok (.aload_n 0, 1) := by decide +kernel
theorem dX5_forgetOnes_11 : decode cX5_forgetOnes 11 = .ok (.iconst 0, 1) := by decide +kernel
theorem dX5_forgetOnes_12 : decode cX5_forgetOnes 12 = .ok (.putfield 61, 3) := by decide +kernel
theorem dX5_forgetOnes_15 : decode cX5_forgetOnes 15 = .ok (.aload_n 0, 1) := by decide +kernel
theorem dX5_forgetOnes_16 : decode cX5_forgetOnes 16 = .ok (.iconst 0, 1) := by decide +kernel
theorem dX5_forgetOnes_17 : decode cX5_forgetOnes 17 = .ok (.putfield 64, 3) := by decide +kernel
theorem dX5_forgetOnes_20 : decode cX5_forgetOnes 20 = .ok (.aload_n 0, 1) := by decide +kernel
theorem dX5_forgetOnes_21 : decode cX5_forgetOnes 21 = .ok (.iconst 0, 1) := by decide +kernel
theorem dX5_forgetOnes_22 : decode cX5_forgetOnes 22 = .ok (.putfield 67, 3) := by decide +kernel
theorem dX5_forgetOnes_25 : decode cX5_forgetOnes 25 = .ok (.aload_n 0, 1) := by decide +kernel
theorem dX5_forgetOnes_26 : decode cX5_forgetOnes 26 = .ok (.iconst 0, 1) := by decide +kernel
theorem dX5_forgetOnes_27 : decode cX5_forgetOnes 27 = .ok (.putfield 70, 3) := by decide +kernel
theorem dX5_forgetOnes_30 : decode cX5_forgetOnes 30 = .ok (.return_, 1) := by decide +kernel
theorem dX5_judge_0 : decode cX5_judge 0 = .ok (.aload_n 1, 1) := by decide +kernel
theorem dX5_judge_1 : decode cX5_judge 1 = .ok (.getfield 46, 3) := by decide +kernel
theorem dX5_judge_4 : decode cX5_judge 4 = .ok (.aload_n 0, 1) := by decide +kernel
theorem dX5_judge_5 : decode cX5_judge 5 = .ok (.getfield 24, 3) := by decide +kernel
theorem dX5_judge_8 : decode cX5_judge 8 = .ok (.aaload, 1) := by decide +kernel
theorem dX5_judge_9 : decode cX5_judge 9 = .ok (.astore 4, 2) := by decide +kernel
theorem dX5_judge_11 : decode cX5_judge 11 = .ok (.aload_n 1, 1) := by decide +kernel
theorem dX5_judge_12 : decode cX5_judge 12 = .ok (.getfield 46, 3) := by decide +kernel
theorem dX5_judge_15 : decode cX5_judge 15 = .ok (.iload_n 2, 1) := by decide +kernel
theorem dX5_judge_16 : decode cX5_judge 16 = .ok (.aaload, 1) := by decide +kernel
theorem dX5_judge_17 : decode cX5_judge 17 = .ok (.astore 5, 2) := by decide +kernel
theorem dX5_judge_19 : decode cX5_judge 19 = .ok (.iconst 1, 1) := by decide +kernel
theorem dX5_judge_20 : decode cX5_judge 20 = .ok (.iload_n 2, 1) := by decide +kernel
theorem dX5_judge_21 : decode cX5_judge 21 = .ok (.ishl, 1) := by decide +kernel
theorem dX5_judge_22 : decode cX5_judge 22 = .ok (.istore 6, 2) := by decide +kernel
theorem dX5_judge_24 : decode cX5_judge 24 = .ok (.aload_n 0, 1) := by decide +kernel
theorem dX5_judge_25 : decode cX5_judge 25 = .ok (.dup, 1) := by decide +kernel
theorem dX5_judge_26 : decode cX5_judge 26 = .ok (.getfield 58, 3) := by decide +kernel
theorem dX5_judge_29 : decode cX5_judge 29 = .ok (.iload 6, 2) := by decide +kernel
theorem dX5_judge_31 : decode cX5_judge 31 = .ok (.ior, 1) := by decide +kernel
theorem dX5_judge_32 : decode cX5_judge 32 = .ok (.putfield 58, 3) := by decide +kernel
theorem dX5_judge_35 : decode cX5_judge 35 = .ok (.aload 5, 2) := by decide +kernel
theorem dX5_judge_37 : decode cX5_judge 37 = .ok (.aload_n 0, 1) := by decide +kernel
theorem dX5_judge_38 : decode cX5_judge 38 = .ok (.getfield 24, 3) := by decide +kernel
theorem dX5_judge_41 : decode cX5_judge 41 = .ok (.iaload, 1) := by decide +kernel
theorem dX5_judge_42 : decode cX5_judge 42 = .ok (.aload 5, 2) := by decide +kernel
theorem dX5_judge_44 : decode cX5_judge 44 = .ok (.aload_n 0, 1) := by decide +kernel
theorem dX5_judge_45 : decode cX5_judge 45 = .ok (.getfield 18, 3) := by decide +kernel
theorem dX5_judge_48 : decode cX5_judge 48 = .ok (.iaload, 1) := by decide +kernel
theorem dX5_judge_49 : decode cX5_judge 49 = .ok (.aload 4, 2) := by decide +kernel
theorem dX5_judge_51 : decode cX5_judge 51 = .ok (.aload_n 0, 1) := by decide +kernel
theorem dX5_judge_52 : decode cX5_judge 52 = .ok (.getfield 18, 3) := by decide +kernel
theorem dX5_judge_55 : decode cX5_judge 55 = .ok (.iaload, 1) := by decide +kernel
theorem dX5_judge_56 : decode cX5_judge 56 = .ok (.iadd, 1) := by decide +kernel
theorem dX5_judge_57 : decode cX5_judge 57 = .ok (.if_icmp .ge 14, 3) := by decide +kernel
theorem dX5_judge_60 : decode cX5_judge 60 = .ok (.aload_n 0, 1) := by decide +kernel
theorem dX5_judge_61 : decode cX5_judge 61 = .ok (.dup, 1) := by decide +kernel
theorem dX5_judge_62 : decode cX5_judge 62 = .ok (.getfield 61, 3) := by decide +kernel
theorem dX5_judge_65 : decode cX5_judge 65 = .ok (.iload 6, 2) := by decide +kernel
theorem dX5_judge_67 : decode cX5_judge 67 = .ok (.ior, 1) := by decide +kernel
theorem dX5_judge_68 : decode cX5_judge 68 = .ok (.putfield 61, 3) := by decide +kernel
theorem dX5_judge_71 : decode cX5_judge 71 = .ok (.aload 5, 2) := by decide +kernel
theorem dX5_judge_73 : decode cX5_judge 73 = .ok (.aload_n 0, 1) := by decide +kernel
theorem dX5_judge_74 : decode cX5_judge 74 = .ok (.getfield 24, 3) := by decide +kernel
theorem dX5_judge_77 : decode cX5_judge 77 = .ok (.iaload, 1) := by decide +kernel
theorem dX5_judge_78 : decode cX5_judge 78 = .ok (.aload 4, 2) := by decide +kernel
theorem dX5_judge_80 : decode cX5_judge 80 = .ok (.aload_n 0, 1) := by decide +kernel
theorem dX5_judge_81 : decode cX5_judge 81 = .ok (.getfield 18, 3) := by decide +kernel
theorem dX5_judge_84 : decode cX5_judge 84 = .ok (.iaload, 1) := by decide +kernel
theorem dX5_judge_85 : decode cX5_judge 85 = .ok (.if_icmp .ge 14, 3) := by decide +kernel
theorem dX5_judge_88 : decode cX5_judge 88 = .ok (.aload_n 0, 1) := by decide +kernel
theorem dX5_judge_89 : decode cX5_judge 89 = .ok (.dup, 1) := by decide +kernel
theorem dX5_judge_90 : decode cX5_judge 90 = .ok (.getfield 64, 3) := by decide +kernel
theorem dX5_judge_93 : decode cX5_judge 93 = .ok (.iload 6, 2) := by decide +kernel
theorem dX5_judge_95 : decode cX5_judge 95 = .ok (.ior, 1) := by decide +kernel
theorem dX5_judge_96 : decode cX5_judge 96 = .ok (.putfield 64, 3) := by decide +kernel
theorem dX5_judge_99 : decode cX5_judge 99 = .ok (.aload_n 0, 1) := by decide +kernel
theorem dX5_judge_100 : decode cX5_judge 100 = .ok (.getfield 27, 3) := by decide +kernel
theorem dX5_judge_103 : decode cX5_judge 103 = .ok (.aload_n 0, 1) := by decide +kernel
theorem dX5_judge_104 : decode cX5_judge 104 = .ok (.getfield 24, 3) := by decide +kernel
theorem dX5_judge_107 : decode cX5_judge 107 = .ok (.if_icmp .eq 39, 3) := by decide +kernel
theorem dX5_judge_110 : decode cX5_judge 110 = .ok (.aload 5, 2) := by decide +kernel
theorem dX5_judge_112 : decode cX5_judge 112 = .ok (.aload_n 0, 1) := by decide +kernel
theorem dX5_judge_113 : decode cX5_judge 113 = .ok (.getfield 24, 3) := by decide +kernel
theorem dX5_judge_116 : decode cX5_judge 116 = .ok (.iaload, 1) := by decide +kernel
theorem dX5_judge_117 : decode cX5_judge 117 = .ok (.aload 5, 2) := by decide +kernel
theorem dX5_judge_119 : decode cX5_judge 119 = .ok (.aload_n 0, 1) := by decide +kernel
theorem dX5_judge_120 : decode cX5_judge 120 = .ok (.getfield 27, 3) := by decide +kernel
theorem dX5_judge_123 : decode cX5_judge 123 = .ok (.iaload, 1) := by decide +kernel
theorem dX5_judge_124 : decode cX5_judge 124 = .ok (.aload 4, 2) := by decide +kernel
theorem dX5_judge_126 : decode cX5_judge 126 = .ok (.aload_n 0, 1) := by decide +kernel
theorem dX5_judge_127 : decode cX5_judge 127 = .ok (.getfield 27, 3) := by decide +kernel
theorem dX5_judge_130 : decode cX5_judge 130 = .ok (.iaload, 1) := by decide +kernel
theorem dX5_judge_131 : decode cX5_judge 131 = .ok (.iadd, 1) := by decide +kernel
theorem dX5_judge_132 : decode cX5_judge 132 = .ok (.if_icmp .ge 14, 3) := by decide +kernel
theorem dX5_judge_135 : decode cX5_judge 135 = .ok (.aload_n 0, 1) := by decide +kernel
theorem dX5_judge_136 : decode cX5_judge 136 = .ok (.dup, 1) := by decide +kernel
theorem dX5_judge_137 : decode cX5_judge 137 = .ok (.getfield 67, 3) := by decide +kernel
theorem dX5_judge_140 : decode cX5_judge 140 = .ok (.iload 6, 2) := by decide +kernel
theorem dX5_judge_142 : decode cX5_judge 142 = .ok (.ior, 1) := by decide +kernel
theorem dX5_judge_143 : decode cX5_judge 143 = .ok (.putfield 67, 3) := by decide +kernel
theorem dX5_judge_146 : decode cX5_judge 146 = .ok (.aload_n 1, 1) := by decide +kernel
theorem dX5_judge_147 : decode cX5_judge 147 = .ok (.getfield 73, 3) := by decide +kernel
theorem dX5_judge_150 : decode cX5_judge 150 = .ok (.iload_n 3, 1) := by decide +kernel
theorem dX5_judge_151 : decode cX5_judge 151 = .ok (.iaload, 1) := by decide +kernel
theorem dX5_judge_152 : decode cX5_judge 152 = .ok (.aload_n 1, 1) := by decide +kernel
theorem dX5_judge_153 : decode cX5_judge 153 = .ok (.getfield 73, 3) := by decide +kernel
theorem dX5_judge_156 : decode cX5_judge 156 = .ok (.aload_n 0, 1) := by decide +kernel
theorem dX5_judge_157 : decode cX5_judge 157 = .ok (.getfield 30, 3) := by decide +kernel
theorem dX5_judge_160 : decode cX5_judge 160 = .ok (.iaload, 1) := by decide +kernel
theorem dX5_judge_161 : decode cX5_judge 161 = .ok (.iand, 1) := by decide +kernel
theorem dX5_judge_162 : decode cX5_judge 162 = .ok (.ifCond .ne 14, 3) := by decide +kernel
theorem dX5_judge_165 : decode cX5_judge 165 = .ok (.aload_n 0, 1) := by decide +kernel
theorem dX5_judge_166 : decode cX5_judge 166 = .ok (.dup, 1) := by decide +kernel
theorem dX5_judge_167 : decode cX5_judge 167 = .ok (.getfield 70, 3) := by decide +kernel
theorem dX5_judge_170 : decode cX5_judge 170 = .ok (.iload 6, 2) := by decide +kernel
theorem dX5_judge_172 : decode cX5_judge 172 = .ok (.ior, 1) := by decide +kernel
theorem dX5_judge_173 : decode cX5_judge 173 = .ok (.putfield 70, 3) := by decide +kernel
theorem dX5_judge_176 : decode cX5_judge 176 = .ok (.return_, 1) := by decide +kernel
theorem dX5_onesThatAre_0 : decode cX5_onesThatAre 0 = .ok (.iload_n 1, 1) := by decide +kernel
theorem dX5_onesThatAre_1 : decode cX5_onesThatAre 1 = .ok (.tableswitch 51 0 3 #[31, 36, 41, 46], 31) := by decide +kernel
theorem dX5_onesThatAre_32 : decode cX5_onesThatAre 32 = .ok (.aload_n 0, 1) := by decide +kernel
theorem dX5_onesThatAre_33 : decode cX5_onesThatAre 33 = .ok (.getfield 61, 3) := by decide +kernel
theorem dX5_onesThatAre_36 : decode cX5_onesThatAre 36 = .ok (.ireturn, 1) := by decide +kernel
theorem dX5_onesThatAre_37 : decode cX5_onesThatAre 37 = .ok (.aload_n 0, 1) := by decide +kernel
theorem dX5_onesThatAre_38 : decode cX5_onesThatAre 38 = .ok (.getfield 64, 3) := by decide +kernel
theorem dX5_onesThatAre_41 : decode cX5_onesThatAre 41 = .ok (.ireturn, 1) := by decide +kernel
theorem dX5_onesThatAre_42 : decode cX5_onesThatAre 42 = .ok (.aload_n 0, 1) := by decide +kernel
theorem dX5_onesThatAre_43 : decode cX5_onesThatAre 43 = .ok (.getfield 67, 3) := by decide +kernel
theorem dX5_onesThatAre_46 : decode cX5_onesThatAre 46 = .ok (.ireturn, 1) := by decide +kernel
theorem dX5_onesThatAre_47 : decode cX5_onesThatAre 47 = .ok (.aload_n 0, 1) := by decide +kernel
theorem dX5_onesThatAre_48 : decode cX5_onesThatAre 48 = .ok (.getfield 70, 3) := by decide +kernel
theorem dX5_onesThatAre_51 : decode cX5_onesThatAre 51 = .ok (.ireturn, 1) := by decide +kernel
theorem dX5_onesThatAre_52 : decode cX5_onesThatAre 52 = .ok (.iconst 0, 1) := by decide +kernel
theorem dX5_onesThatAre_53 : decode cX5_onesThatAre 53 = .ok (.ireturn, 1) := by decide +kernel
theorem dX5_bestOther_0 : decode cX5_bestOther 0 = .ok (.iconst (-1), 1) := by decide +kernel
theorem dX5_bestOther_1 : decode cX5_bestOther 1 = .ok (.istore_n 2, 1) := by decide +kernel
theorem dX5_bestOther_2 : decode cX5_bestOther 2 = .ok (.iconst 0, 1) := by decide +kernel
theorem dX5_bestOther_3 : decode cX5_bestOther 3 = .ok (.istore_n 3, 1) := by decide +kernel
theorem dX5_bestOther_4 : decode cX5_bestOther 4 = .ok (.iconst 0, 1) := by decide +kernel
theorem dX5_bestOther_5 : decode cX5_bestOther 5 = .ok (.istore 4, 2) := by decide +kernel
theorem dX5_bestOther_7 : decode cX5_bestOther 7 = .ok (.iload 4, 2) := by decide +kernel
theorem dX5_bestOther_9 : decode cX5_bestOther 9 = .ok (.aload_n 1, 1) := by decide +kernel
theorem dX5_bestOther_10 : decode cX5_bestOther 10 = .ok (.getfield 43, 3) := by decide +kernel
theorem dX5_bestOther_13 : decode cX5_bestOther 13 = .ok (.if_icmp .ge 111, 3) := by decide +kernel
theorem dX5_bestOther_16 : decode cX5_bestOther 16 = .ok (.aload_n 1, 1) := by decide +kernel
theorem dX5_bestOther_17 : decode cX5_bestOther 17 = .ok (.aload_n 0, 1) := by decide +kernel
theorem dX5_bestOther_18 : decode cX5_bestOther 18 = .ok (.getfield 18, 3) := by decide +kernel
theorem dX5_bestOther_21 : decode cX5_bestOther 21 = .ok (.iload 4, 2) := by decide +kernel
theorem dX5_bestOther_23 : decode cX5_bestOther 23 = .ok (.invokevirtual 76, 3) := by decide +kernel
theorem dX5_bestOther_26 : decode cX5_bestOther 26 = .ok (.aload_n 1, 1) := by decide +kernel
theorem dX5_bestOther_27 : decode cX5_bestOther 27 = .ok (.getfield 46, 3) := by decide +kernel
theorem dX5_bestOther_30 : decode cX5_bestOther 30 = .ok (.iload 4, 2) := by decide +kernel
theorem dX5_bestOther_32 : decode cX5_bestOther 32 = .ok (.aaload, 1) := by decide +kernel
theorem dX5_bestOther_33 : decode cX5_bestOther 33 = .ok (.aload_n 0, 1) := by decide +kernel
theorem dX5_bestOther_34 : decode cX5_bestOther 34 = .ok (.getfield 24, 3) := by decide +kernel
theorem dX5_bestOther_37 : decode cX5_bestOther 37 = .ok (.iaload, 1) := by decide +kernel
theorem dX5_bestOther_38 : decode cX5_bestOther 38 = .ok (.iadd, 1) := by decide +kernel
theorem dX5_bestOther_39 : decode cX5_bestOther 39 = .ok (.istore 5, 2) := by decide +kernel
theorem dX5_bestOther_41 : decode cX5_bestOther 41 = .ok (.iload 5, 2) := by decide +kernel
theorem dX5_bestOther_43 : decode cX5_bestOther 43 = .ok (.aload_n 0, 1) := by decide +kernel
theorem dX5_bestOther_44 : decode cX5_bestOther 44 = .ok (.getfield 67, 3) := by decide +kernel
theorem dX5_bestOther_47 : decode cX5_bestOther 47 = .ok (.iload 4, 2) := by decide +kernel
theorem dX5_bestOther_49 : decode cX5_bestOther 49 = .ok (.invokestatic 79, 3) := by decide +kernel
theorem dX5_bestOther_52 : decode cX5_bestOther 52 = .ok (.ifCond .eq 7, 3) := by decide +kernel
theorem dX5_bestOther_55 : decode cX5_bestOther 55 = .ok (.iconst 0, 1) := by decide +kernel
theorem dX5_bestOther_56 : decode cX5_bestOther 56 = .ok (.goto 6, 3) := by decide +kernel
theorem dX5_bestOther_59 : decode cX5_bestOther 59 = .ok (.sipush 20000, 3) := by decide +kernel
theorem dX5_bestOther_62 : decode cX5_bestOther 62 = .ok (.iadd, 1) := by decide +kernel
theorem dX5_bestOther_63 : decode cX5_bestOther 63 = .ok (.istore 5, 2) := by decide +kernel
theorem dX5_bestOther_65 : decode cX5_bestOther 65 = .ok (.iload 5, 2) := by decide +kernel
theorem dX5_bestOther_67 : decode cX5_bestOther 67 = .ok (.aload_n 0, 1) := by decide +kernel
theorem dX5_bestOther_68 : decode cX5_bestOther 68 = .ok (.getfield 70, 3) := by decide +kernel
theorem dX5_bestOther_71 : decode cX5_bestOther 71 = .ok (.iload 4, 2) := by decide +kernel
theorem dX5_bestOther_73 : decode cX5_bestOther 73 = .ok (.invokestatic 79, 3) := by decide +kernel
theorem dX5_bestOther_76 : decode cX5_bestOther 76 = .ok (.ifCond .eq 7, 3) := by decide +kernel
theorem dX5_bestOther_79 : decode cX5_bestOther 79 = .ok (.iconst 0, 1) := by decide +kernel
theorem dX5_bestOther_80 : decode cX5_bestOther 80 = .ok (.goto 6, 3) := by decide +kernel
theorem dX5_bestOther_83 : decode cX5_bestOther 83 = .ok (.sipush 10000, 3) := by decide +kernel
theorem dX5_bestOther_86 : decode cX5_bestOther 86 = .ok (.iadd, 1) := by decide +kernel
theorem dX5_bestOther_87 : decode cX5_bestOther 87 = .ok (.istore 5, 2) := by decide +kernel
theorem dX5_bestOther_89 : decode cX5_bestOther 89 = .ok (.aload_n 0, 1) := by decide +kernel
theorem dX5_bestOther_90 : decode cX5_bestOther 90 = .ok (.getfield 61, 3) := by decide +kernel
theorem dX5_bestOther_93 : decode cX5_bestOther 93 = .ok (.iload 4, 2) := by decide +kernel
theorem dX5_bestOther_95 : decode cX5_bestOther 95 = .ok (.invokestatic 79, 3) := by decide +kernel
theorem dX5_bestOther_98 : decode cX5_bestOther 98 = .ok (.ifCond .eq 20, 3) := by decide +kernel
theorem dX5_bestOther_101 : decode cX5_bestOther 101 = .ok (.iload_n 2, 1) := by decide +kernel
theorem dX5_bestOther_102 : decode cX5_bestOther 102 = .ok (.iconst (-1), 1) := by decide +kernel
theorem dX5_bestOther_103 : decode cX5_bestOther 103 = .ok (.if_icmp .eq 9, 3) := by decide +kernel
theorem dX5_bestOther_106 : decode cX5_bestOther 106 = .ok (.iload 5, 2) := by decide +kernel
theorem dX5_bestOther_108 : decode cX5_bestOther 108 = .ok (.iload_n 3, 1) := by decide +kernel
theorem dX5_bestOther_109 : decode cX5_bestOther 109 = .ok (.if_icmp .ge 9, 3) := by decide +kernel
theorem dX5_bestOther_112 : decode cX5_bestOther 112 = .ok (.iload 4, 2) := by decide +kernel
theorem dX5_bestOther_114 : decode cX5_bestOther 114 = .ok (.istore_n 2, 1) := by decide +kernel
theorem dX5_bestOther_115 : decode cX5_bestOther 115 = .ok (.iload 5, 2) := by decide +kernel
theorem dX5_bestOther_117 : decode cX5_bestOther 117 = .ok (.istore_n 3, 1) := by decide +kernel
theorem dX5_bestOther_118 : decode cX5_bestOther 118 = .ok (.iinc 4 1, 3) := by decide +kernel
theorem dX5_bestOther_121 : decode cX5_bestOther 121 = .ok (.goto (-114), 3) := by decide +kernel
theorem dX5_bestOther_124 : decode cX5_bestOther 124 = .ok (.iload_n 2, 1) := by decide +kernel
theorem dX5_bestOther_125 : decode cX5_bestOther 125 = .ok (.ireturn, 1) := by decide +kernel
theorem dX5_isBestOther_0 : decode cX5_isBestOther 0 = .ok (.aload_n 0, 1) := by decide +kernel
theorem dX5_isBestOther_1 : decode cX5_isBestOther 1 = .ok (.aload_n 1, 1) := by decide +kernel
theorem dX5_isBestOther_2 : decode cX5_isBestOther 2 = .ok (.invokevirtual 83, 3) := by decide +kernel
theorem dX5_isBestOther_5 : decode cX5_isBestOther 5 = .ok (.istore_n 3, 1) := by decide +kernel
theorem dX5_isBestOther_6 : decode cX5_isBestOther 6 = .ok (.iload_n 3, 1) := by decide +kernel
theorem dX5_isBestOther_7 : decode cX5_isBestOther 7 = .ok (.iconst (-1), 1) := by decide +kernel
theorem dX5_isBestOther_8 : decode cX5_isBestOther 8 = .ok (.if_icmp .eq 19, 3) := by decide +kernel
theorem dX5_isBestOther_11 : decode cX5_isBestOther 11 = .ok (.aload_n 0, 1) := by decide +kernel
theorem dX5_isBestOther_12 : decode cX5_isBestOther 12 = .ok (.iload_n 2, 1) := by decide +kernel
theorem dX5_isBestOther_13 : decode cX5_isBestOther 13 = .ok (.invokevirtual 87, 3) := by decide +kernel
theorem dX5_isBestOther_16 : decode cX5_isBestOther 16 = .ok (.iload_n 3, 1) := by decide +kernel
theorem dX5_isBestOther_17 : decode cX5_isBestOther 17 = .ok (.invokestatic 79, 3) := by decide +kernel
theorem dX5_isBestOther_20 : decode cX5_isBestOther 20 = .ok (.ifCond .eq 7, 3) := by decide +kernel
theorem dX5_isBestOther_23 : decode cX5_isBestOther 23 = .ok (.iconst 1, 1) := by decide +kernel
theorem dX5_isBestOther_24 : decode cX5_isBestOther 24 = .ok (.goto 4, 3) := by decide +kernel
theorem dX5_isBestOther_27 : decode cX5_isBestOther 27 = .ok (.iconst 0, 1) := by decide +kernel
theorem dX5_isBestOther_28 : decode cX5_isBestOther 28 = .ok (.ireturn, 1) := by decide +kernel
theorem dX5_reachedOfItself_0 : decode cX5_reachedOfItself 0 = .ok (.aload_n 1, 1) := by decide +kernel
theorem dX5_reachedOfItself_1 : decode cX5_reachedOfItself 1 = .ok (.getfield 46, 3) := by decide +kernel
theorem dX5_reachedOfItself_4 : decode cX5_reachedOfItself 4 = .ok (.aload_n 0, 1) := by decide +kernel
theorem dX5_reachedOfItself_5 : decode cX5_reachedOfItself 5 = .ok (.getfield 18, 3) := by decide +kernel
theorem dX5_reachedOfItself_8 : decode cX5_reachedOfItself 8 = .ok (.aaload, 1) := by decide +kernel
theorem dX5_reachedOfItself_9 : decode cX5_reachedOfItself 9 = .ok (.astore_n 2, 1) := by decide +kernel
theorem dX5_reachedOfItself_10 : decode cX5_reachedOfItself 10 = .ok (.aload_n 1, 1) := by decide +kernel
theorem dX5_reachedOfItself_11 : decode cX5_reachedOfItself 11 = .ok (.getfield 46, 3) := by decide +kernel
theorem dX5_reachedOfItself_14 : decode cX5_reachedOfItself 14 = .ok (.aload_n 0, 1) := by decide +kernel
theorem dX5_reachedOfItself_15 : decode cX5_reachedOfItself 15 = .ok (.getfield 27, 3) := by decide +kernel
theorem dX5_reachedOfItself_18 : decode cX5_reachedOfItself 18 = .ok (.aaload, 1) := by decide +kernel
theorem dX5_reachedOfItself_19 : decode cX5_reachedOfItself 19 = .ok (.astore_n 3, 1) := by decide +kernel
theorem dX5_reachedOfItself_20 : decode cX5_reachedOfItself 20 = .ok (.iconst 0, 1) := by decide +kernel
theorem dX5_reachedOfItself_21 : decode cX5_reachedOfItself 21 = .ok (.istore 4, 2) := by decide +kernel
theorem dX5_reachedOfItself_23 : decode cX5_reachedOfItself 23 = .ok (.iconst 0, 1) := by decide +kernel
theorem dX5_reachedOfItself_24 : decode cX5_reachedOfItself 24 = .ok (.istore 5, 2) := by decide +kernel
theorem dX5_reachedOfItself_26 : decode cX5_reachedOfItself 26 = .ok (.iload 5, 2) := by decide +kernel
theorem dX5_reachedOfItself_28 : decode cX5_reachedOfItself 28 = .ok (.aload_n 1, 1) := by decide +kernel
theorem dX5_reachedOfItself_29 : decode cX5_reachedOfItself 29 = .ok (.getfield 43, 3) := by decide +kernel
theorem dX5_reachedOfItself_32 : decode cX5_reachedOfItself 32 = .ok (.if_icmp .ge 46, 3) := by decide +kernel
theorem dX5_reachedOfItself_35 : decode cX5_reachedOfItself 35 = .ok (.aload_n 0, 1) := by decide +kernel
theorem dX5_reachedOfItself_36 : decode cX5_reachedOfItself 36 = .ok (.getfield 51, 3) := by decide +kernel
theorem dX5_reachedOfItself_39 : decode cX5_reachedOfItself 39 = .ok (.iload 5, 2) := by decide +kernel
theorem dX5_reachedOfItself_41 : decode cX5_reachedOfItself 41 = .ok (.invokestatic 79, 3) := by decide +kernel
theorem dX5_reachedOfItself_44 : decode cX5_reachedOfItself 44 = .ok (.ifCond .eq 28, 3) := by decide +kernel
theorem dX5_reachedOfItself_47 : decode cX5_reachedOfItself 47 = .ok (.aload_n 2, 1) := by decide +kernel
theorem dX5_reachedOfItself_48 : decode cX5_reachedOfItself 48 = .ok (.iload 5, 2) := by decide +kernel
theorem dX5_reachedOfItself_50 : decode cX5_reachedOfItself 50 = .ok (.iaload, 1) := by decide +kernel
theorem dX5_reachedOfItself_51 : decode cX5_reachedOfItself 51 = .ok (.aload_n 0, 1) := by decide +kernel
theorem dX5_reachedOfItself_52 : decode cX5_reachedOfItself 52 = .ok (.getfield 37, 3) := by decide +kernel
theorem dX5_reachedOfItself_55 : decode cX5_reachedOfItself 55 = .ok (.aload_n 3, 1) := by decide +kernel
theorem dX5_reachedOfItself_56 : decode cX5_reachedOfItself 56 = .ok (.iload 5, 2) := by decide +kernel
theorem dX5_reachedOfItself_58 : decode cX5_reachedOfItself 58 = .ok (.iaload, 1) := by decide +kernel
theorem dX5_reachedOfItself_59 : decode cX5_reachedOfItself 59 = .ok (.iadd, 1) := by decide +kernel
theorem dX5_reachedOfItself_60 : decode cX5_reachedOfItself 60 = .ok (.if_icmp .ge 12, 3) := by decide +kernel
theorem dX5_reachedOfItself_63 : decode cX5_reachedOfItself 63 = .ok (.iload 4, 2) := by decide +kernel
theorem dX5_reachedOfItself_65 : decode cX5_reachedOfItself 65 = .ok (.iconst 1, 1) := by decide +kernel
theorem dX5_reachedOfItself_66 : decode cX5_reachedOfItself 66 = .ok (.iload 5, 2) := by decide +kernel
theorem dX5_reachedOfItself_68 : decode cX5_reachedOfItself 68 = .ok (.ishl, 1) := by decide +kernel
theorem dX5_reachedOfItself_69 : decode cX5_reachedOfItself 69 = .ok (.ior, 1) := by decide +kernel
theorem dX5_reachedOfItself_70 : decode cX5_reachedOfItself 70 = .ok (.istore 4, 2) := by decide +kernel
theorem dX5_reachedOfItself_72 : decode cX5_reachedOfItself 72 = .ok (.iinc 5 1, 3) := by decide +kernel
theorem dX5_reachedOfItself_75 : decode cX5_reachedOfItself 75 = .ok (.goto (-49), 3) := by decide +kernel
theorem dX5_reachedOfItself_78 : decode cX5_reachedOfItself 78 = .ok (.iload 4, 2) := by decide +kernel
theorem dX5_reachedOfItself_80 : decode cX5_reachedOfItself 80 = .ok (.ireturn, 1) := by decide +kernel
theorem dX5_reachedBy_0 : decode cX5_reachedBy 0 = .ok (.aload_n 1, 1) := by decide +kernel
theorem dX5_reachedBy_1 : decode cX5_reachedBy 1 = .ok (.getfield 46, 3) := by decide +kernel
theorem dX5_reachedBy_4 : decode cX5_reachedBy 4 = .ok (.aload_n 0, 1) := by decide +kernel
theorem dX5_reachedBy_5 : decode cX5_reachedBy 5 = .ok (.getfield 18, 3) := by decide +kernel
theorem dX5_reachedBy_8 : decode cX5_reachedBy 8 = .ok (.aaload, 1) := by decide +kernel
theorem dX5_reachedBy_9 : decode cX5_reachedBy 9 = .ok (.astore_n 3, 1) := by decide +kernel
theorem dX5_reachedBy_10 : decode cX5_reachedBy 10 = .ok (.aload_n 1, 1) := by decide +kernel
theorem dX5_reachedBy_11 : decode cX5_reachedBy 11 = .ok (.getfield 46, 3) := by decide +kernel
theorem dX5_reachedBy_14 : decode cX5_reachedBy 14 = .ok (.aload_n 0, 1) := by decide +kernel
theorem dX5_reachedBy_15 : decode cX5_reachedBy 15 = .ok (.getfield 27, 3) := by decide +kernel
theorem dX5_reachedBy_18 : decode cX5_reachedBy 18 = .ok (.aaload, 1) := by decide +kernel
theorem dX5_reachedBy_19 : decode cX5_reachedBy 19 = .ok (.astore 4, 2) := by decide +kernel
theorem dX5_reachedBy_21 : decode cX5_reachedBy 21 = .ok (.aload_n 1, 1) := by decide +kernel
theorem dX5_reachedBy_22 : decode cX5_reachedBy 22 = .ok (.getfield 46, 3) := by decide +kernel
theorem dX5_reachedBy_25 : decode cX5_reachedBy 25 = .ok (.iload_n 2, 1) := by decide +kernel
theorem dX5_reachedBy_26 : decode cX5_reachedBy 26 = .ok (.aaload, 1) := by decide +kernel
theorem dX5_reachedBy_27 : decode cX5_reachedBy 27 = .ok (.astore 5, 2) := by decide +kernel
theorem dX5_reachedBy_29 : decode cX5_reachedBy 29 = .ok (.aload 5, 2) := by decide +kernel
theorem dX5_reachedBy_31 : decode cX5_reachedBy 31 = .ok (.aload_n 0, 1) := by decide +kernel
theorem dX5_reachedBy_32 : decode cX5_reachedBy 32 = .ok (.getfield 18, 3) := by decide +kernel
theorem dX5_reachedBy_35 : decode cX5_reachedBy 35 = .ok (.iaload, 1) := by decide +kernel
theorem dX5_reachedBy_36 : decode cX5_reachedBy 36 = .ok (.aload_n 0, 1) := by decide +kernel
theorem dX5_reachedBy_37 : decode cX5_reachedBy 37 = .ok (.getfield 37, 3) := by decide +kernel
theorem dX5_reachedBy_40 : decode cX5_reachedBy 40 = .ok (.iadd, 1) := by decide +kernel
theorem dX5_reachedBy_41 : decode cX5_reachedBy 41 = .ok (.istore 6, 2) := by decide +kernel
theorem dX5_reachedBy_43 : decode cX5_reachedBy 43 = .ok (.aload 5, 2) := by decide +kernel
theorem dX5_reachedBy_45 : decode cX5_reachedBy 45 = .ok (.aload_n 0, 1) := by decide +kernel
theorem dX5_reachedBy_46 : decode cX5_reachedBy 46 = .ok (.getfield 27, 3) := by decide +kernel
theorem dX5_reachedBy_49 : decode cX5_reachedBy 49 = .ok (.iaload, 1) := by decide +kernel
theorem dX5_reachedBy_50 : decode cX5_reachedBy 50 = .ok (.aload_n 0, 1) := by decide +kernel
theorem dX5_reachedBy_51 : decode cX5_reachedBy 51 = .ok (.getfield 37, 3) := by decide +kernel
theorem dX5_reachedBy_54 : decode cX5_reachedBy 54 = .ok (.iadd, 1) := by decide +kernel
theorem dX5_reachedBy_55 : decode cX5_reachedBy 55 = .ok (.istore 7, 2) := by decide +kernel
theorem dX5_reachedBy_57 : decode cX5_reachedBy 57 = .ok (.iconst 0, 1) := by decide +kernel
theorem dX5_reachedBy_58 : decode cX5_reachedBy 58 = .ok (.istore 8, 2) := by decide +kernel
theorem dX5_reachedBy_60 : decode cX5_reachedBy 60 = .ok (.iconst 0, 1) := by decide +kernel
theorem dX5_reachedBy_61 : decode cX5_reachedBy 61 = .ok (.istore 9, 2) := by decide +kernel
theorem dX5_reachedBy_63 : decode cX5_reachedBy 63 = .ok (.iload 9, 2) := by decide +kernel
theorem dX5_reachedBy_65 : decode cX5_reachedBy 65 = .ok (.aload_n 1, 1) := by decide +kernel
theorem dX5_reachedBy_66 : decode cX5_reachedBy 66 = .ok (.getfield 43, 3) := by decide +kernel
theorem dX5_reachedBy_69 : decode cX5_reachedBy 69 = .ok (.if_icmp .ge 61, 3) := by decide +kernel
theorem dX5_reachedBy_72 : decode cX5_reachedBy 72 = .ok (.aload_n 0, 1) := by decide +kernel
theorem dX5_reachedBy_73 : decode cX5_reachedBy 73 = .ok (.getfield 51, 3) := by decide +kernel
theorem dX5_reachedBy_76 : decode cX5_reachedBy 76 = .ok (.iload 9, 2) := by decide +kernel
theorem dX5_reachedBy_78 : decode cX5_reachedBy 78 = .ok (.invokestatic 79, 3) := by decide +kernel
theorem dX5_reachedBy_81 : decode cX5_reachedBy 81 = .ok (.ifCond .eq 43, 3) := by decide +kernel
theorem dX5_reachedBy_84 : decode cX5_reachedBy 84 = .ok (.aload 5, 2) := by decide +kernel
theorem dX5_reachedBy_86 : decode cX5_reachedBy 86 = .ok (.iload 9, 2) := by decide +kernel
theorem dX5_reachedBy_88 : decode cX5_reachedBy 88 = .ok (.iaload, 1) := by decide +kernel
theorem dX5_reachedBy_89 : decode cX5_reachedBy 89 = .ok (.iload 6, 2) := by decide +kernel
theorem dX5_reachedBy_91 : decode cX5_reachedBy 91 = .ok (.aload 4, 2) := by decide +kernel
theorem dX5_reachedBy_93 : decode cX5_reachedBy 93 = .ok (.iload 9, 2) := by decide +kernel
theorem dX5_reachedBy_95 : decode cX5_reachedBy 95 = .ok (.iaload, 1) := by decide +kernel
theorem dX5_reachedBy_96 : decode cX5_reachedBy 96 = .ok (.iadd, 1) := by decide +kernel
theorem dX5_reachedBy_97 : decode cX5_reachedBy 97 = .ok (.if_icmp .ge 27, 3) := by decide +kernel
theorem dX5_reachedBy_100 : decode cX5_reachedBy 100 = .ok (.aload 5, 2) := by decide +kernel
theorem dX5_reachedBy_102 : decode cX5_reachedBy 102 = .ok (.iload 9, 2) := by decide +kernel
theorem dX5_reachedBy_104 : decode cX5_reachedBy 104 = .ok (.iaload, 1) := by decide +kernel
theorem dX5_reachedBy_105 : decode cX5_reachedBy 105 = .ok (.iload 7, 2) := by decide +kernel
theorem dX5_reachedBy_107 : decode cX5_reachedBy 107 = .ok (.aload_n 3, 1) := by decide +kernel
theorem dX5_reachedBy_108 : decode cX5_reachedBy 108 = .ok (.iload 9, 2) := by decide +kernel
theorem dX5_reachedBy_110 : decode cX5_reachedBy 110 = .ok (.iaload, 1) := by decide +kernel
theorem dX5_reachedBy_111 : decode cX5_reachedBy 111 = .ok (.iadd, 1) := by decide +kernel
theorem dX5_reachedBy_112 : decode cX5_reachedBy 112 = .ok (.if_icmp .ge 12, 3) := by decide +kernel
theorem dX5_reachedBy_115 : decode cX5_reachedBy 115 = .ok (.iload 8, 2) := by decide +kernel
theorem dX5_reachedBy_117 : decode cX5_reachedBy 117 = .ok (.iconst 1, 1) := by decide +kernel
theorem dX5_reachedBy_118 : decode cX5_reachedBy 118 = .ok (.iload 9, 2) := by decide +kernel
theorem dX5_reachedBy_120 : decode cX5_reachedBy 120 = .ok (.ishl, 1) := by decide +kernel
theorem dX5_reachedBy_121 : decode cX5_reachedBy 121 = .ok (.ior, 1) := by decide +kernel
theorem dX5_reachedBy_122 : decode cX5_reachedBy 122 = .ok (.istore 8, 2) := by decide +kernel
theorem dX5_reachedBy_124 : decode cX5_reachedBy 124 = .ok (.iinc 9 1, 3) := by decide +kernel
theorem dX5_reachedBy_127 : decode cX5_reachedBy 127 = .ok (.goto (-64), 3) := by decide +kernel
theorem dX5_reachedBy_130 : decode cX5_reachedBy 130 = .ok (.iload 8, 2) := by decide +kernel
theorem dX5_reachedBy_132 : decode cX5_reachedBy 132 = .ok (.ireturn, 1) := by decide +kernel
theorem dX5_reach_0 : decode cX5_reach 0 = .ok (.aload_n 0, 1) := by decide +kernel
theorem dX5_reach_1 : decode cX5_reach 1 = .ok (.aload_n 1, 1) := by decide +kernel
theorem dX5_reach_2 : decode cX5_reach 2 = .ok (.invokevirtual 91, 3) := by decide +kernel
theorem dX5_reach_5 : decode cX5_reach 5 = .ok (.istore_n 2, 1) := by decide +kernel
theorem dX5_reach_6 : decode cX5_reach 6 = .ok (.iconst 0, 1) := by decide +kernel
