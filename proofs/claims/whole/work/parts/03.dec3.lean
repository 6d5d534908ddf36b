/-! decode rows, as printed -/
theorem dX5_reach_7 : decode cX5_reach 7 = .ok (.istore_n 3, 1) := by decide +kernel
theorem dX5_reach_8 : decode cX5_reach 8 = .ok (.iload_n 3, 1) := by decide +kernel
theorem dX5_reach_9 : decode cX5_reach 9 = .ok (.aload_n 1, 1) := by decide +kernel
theorem dX5_reach_10 : decode cX5_reach 10 = .ok (.getfield 43, 3) := by decide +kernel
theorem dX5_reach_13 : decode cX5_reach 13 = .ok (.if_icmp .ge 29, 3) := by decide +kernel
theorem dX5_reach_16 : decode cX5_reach 16 = .ok (.aload_n 0, 1) := by decide +kernel
theorem dX5_reach_17 : decode cX5_reach 17 = .ok (.getfield 58, 3) := by decide +kernel
theorem dX5_reach_20 : decode cX5_reach 20 = .ok (.iload_n 3, 1) := by decide +kernel
theorem dX5_reach_21 : decode cX5_reach 21 = .ok (.invokestatic 79, 3) := by decide +kernel
theorem dX5_reach_24 : decode cX5_reach 24 = .ok (.ifCond .eq 12, 3) := by decide +kernel
theorem dX5_reach_27 : decode cX5_reach 27 = .ok (.iload_n 2, 1) := by decide +kernel
theorem dX5_reach_28 : decode cX5_reach 28 = .ok (.aload_n 0, 1) := by decide +kernel
theorem dX5_reach_29 : decode cX5_reach 29 = .ok (.aload_n 1, 1) := by decide +kernel
theorem dX5_reach_30 : decode cX5_reach 30 = .ok (.iload_n 3, 1) := by decide +kernel
theorem dX5_reach_31 : decode cX5_reach 31 = .ok (.invokevirtual 94, 3) := by decide +kernel
theorem dX5_reach_34 : decode cX5_reach 34 = .ok (.ior, 1) := by decide +kernel
theorem dX5_reach_35 : decode cX5_reach 35 = .ok (.istore_n 2, 1) := by decide +kernel
theorem dX5_reach_36 : decode cX5_reach 36 = .ok (.iinc 3 1, 3) := by decide +kernel
theorem dX5_reach_39 : decode cX5_reach 39 = .ok (.goto (-31), 3) := by decide +kernel
theorem dX5_reach_42 : decode cX5_reach 42 = .ok (.iload_n 2, 1) := by decide +kernel
theorem dX5_reach_43 : decode cX5_reach 43 = .ok (.ireturn, 1) := by decide +kernel
theorem dX5_coming_0 : decode cX5_coming 0 = .ok (.aload_n 1, 1) := by decide +kernel
theorem dX5_coming_1 : decode cX5_coming 1 = .ok (.getfield 46, 3) := by decide +kernel
theorem dX5_coming_4 : decode cX5_coming 4 = .ok (.aload_n 0, 1) := by decide +kernel
theorem dX5_coming_5 : decode cX5_coming 5 = .ok (.getfield 18, 3) := by decide +kernel
theorem dX5_coming_8 : decode cX5_coming 8 = .ok (.aaload, 1) := by decide +kernel
theorem dX5_coming_9 : decode cX5_coming 9 = .ok (.astore_n 2, 1) := by decide +kernel
theorem dX5_coming_10 : decode cX5_coming 10 = .ok (.aload_n 1, 1) := by decide +kernel
theorem dX5_coming_11 : decode cX5_coming 11 = .ok (.getfield 46, 3) := by decide +kernel
theorem dX5_coming_14 : decode cX5_coming 14 = .ok (.aload_n 0, 1) := by decide +kernel
theorem dX5_coming_15 : decode cX5_coming 15 = .ok (.getfield 24, 3) := by decide +kernel
theorem dX5_coming_18 : decode cX5_coming 18 = .ok (.aaload, 1) := by decide +kernel
theorem dX5_coming_19 : decode cX5_coming 19 = .ok (.astore_n 3, 1) := by decide +kernel
theorem dX5_coming_20 : decode cX5_coming 20 = .ok (.aload_n 0, 1) := by decide +kernel
theorem dX5_coming_21 : decode cX5_coming 21 = .ok (.getfield 37, 3) := by decide +kernel
theorem dX5_coming_24 : decode cX5_coming 24 = .ok (.aload_n 3, 1) := by decide +kernel
theorem dX5_coming_25 : decode cX5_coming 25 = .ok (.aload_n 0, 1) := by decide +kernel
theorem dX5_coming_26 : decode cX5_coming 26 = .ok (.getfield 27, 3) := by decide +kernel
theorem dX5_coming_29 : decode cX5_coming 29 = .ok (.iaload, 1) := by decide +kernel
theorem dX5_coming_30 : decode cX5_coming 30 = .ok (.iadd, 1) := by decide +kernel
theorem dX5_coming_31 : decode cX5_coming 31 = .ok (.istore 4, 2) := by decide +kernel
theorem dX5_coming_33 : decode cX5_coming 33 = .ok (.iconst 0, 1) := by decide +kernel
theorem dX5_coming_34 : decode cX5_coming 34 = .ok (.istore 5, 2) := by decide +kernel
theorem dX5_coming_36 : decode cX5_coming 36 = .ok (.iconst 0, 1) := by decide +kernel
theorem dX5_coming_37 : decode cX5_coming 37 = .ok (.istore 6, 2) := by decide +kernel
theorem dX5_coming_39 : decode cX5_coming 39 = .ok (.iload 6, 2) := by decide +kernel
theorem dX5_coming_41 : decode cX5_coming 41 = .ok (.aload_n 1, 1) := by decide +kernel
theorem dX5_coming_42 : decode cX5_coming 42 = .ok (.getfield 43, 3) := by decide +kernel
theorem dX5_coming_45 : decode cX5_coming 45 = .ok (.if_icmp .ge 44, 3) := by decide +kernel
theorem dX5_coming_48 : decode cX5_coming 48 = .ok (.aload_n 0, 1) := by decide +kernel
theorem dX5_coming_49 : decode cX5_coming 49 = .ok (.getfield 51, 3) := by decide +kernel
theorem dX5_coming_52 : decode cX5_coming 52 = .ok (.iload 6, 2) := by decide +kernel
theorem dX5_coming_54 : decode cX5_coming 54 = .ok (.invokestatic 79, 3) := by decide +kernel
theorem dX5_coming_57 : decode cX5_coming 57 = .ok (.ifCond .eq 26, 3) := by decide +kernel
theorem dX5_coming_60 : decode cX5_coming 60 = .ok (.aload_n 3, 1) := by decide +kernel
theorem dX5_coming_61 : decode cX5_coming 61 = .ok (.iload 6, 2) := by decide +kernel
theorem dX5_coming_63 : decode cX5_coming 63 = .ok (.iaload, 1) := by decide +kernel
theorem dX5_coming_64 : decode cX5_coming 64 = .ok (.aload_n 2, 1) := by decide +kernel
theorem dX5_coming_65 : decode cX5_coming 65 = .ok (.iload 6, 2) := by decide +kernel
theorem dX5_coming_67 : decode cX5_coming 67 = .ok (.iaload, 1) := by decide +kernel
theorem dX5_coming_68 : decode cX5_coming 68 = .ok (.iload 4, 2) := by decide +kernel
theorem dX5_coming_70 : decode cX5_coming 70 = .ok (.iadd, 1) := by decide +kernel
theorem dX5_coming_71 : decode cX5_coming 71 = .ok (.if_icmp .ge 12, 3) := by decide +kernel
theorem dX5_coming_74 : decode cX5_coming 74 = .ok (.iload 5, 2) := by decide +kernel
theorem dX5_coming_76 : decode cX5_coming 76 = .ok (.iconst 1, 1) := by decide +kernel
theorem dX5_coming_77 : decode cX5_coming 77 = .ok (.iload 6, 2) := by decide +kernel
theorem dX5_coming_79 : decode cX5_coming 79 = .ok (.ishl, 1) := by decide +kernel
theorem dX5_coming_80 : decode cX5_coming 80 = .ok (.ior, 1) := by decide +kernel
theorem dX5_coming_81 : decode cX5_coming 81 = .ok (.istore 5, 2) := by decide +kernel
theorem dX5_coming_83 : decode cX5_coming 83 = .ok (.iinc 6 1, 3) := by decide +kernel
theorem dX5_coming_86 : decode cX5_coming 86 = .ok (.goto (-47), 3) := by decide +kernel
theorem dX5_coming_89 : decode cX5_coming 89 = .ok (.iload 5, 2) := by decide +kernel
theorem dX5_coming_91 : decode cX5_coming 91 = .ok (.ireturn, 1) := by decide +kernel
theorem dX5_nearestOf_0 : decode cX5_nearestOf 0 = .ok (.aload_n 1, 1) := by decide +kernel
theorem dX5_nearestOf_1 : decode cX5_nearestOf 1 = .ok (.getfield 46, 3) := by decide +kernel
theorem dX5_nearestOf_4 : decode cX5_nearestOf 4 = .ok (.aload_n 0, 1) := by decide +kernel
theorem dX5_nearestOf_5 : decode cX5_nearestOf 5 = .ok (.getfield 18, 3) := by decide +kernel
theorem dX5_nearestOf_8 : decode cX5_nearestOf 8 = .ok (.aaload, 1) := by decide +kernel
theorem dX5_nearestOf_9 : decode cX5_nearestOf 9 = .ok (.astore_n 3, 1) := by decide +kernel
theorem dX5_nearestOf_10 : decode cX5_nearestOf 10 = .ok (.iconst (-1), 1) := by decide +kernel
theorem dX5_nearestOf_11 : decode cX5_nearestOf 11 = .ok (.istore 4, 2) := by decide +kernel
theorem dX5_nearestOf_13 : decode cX5_nearestOf 13 = .ok (.iconst 0, 1) := by decide +kernel
theorem dX5_nearestOf_14 : decode cX5_nearestOf 14 = .ok (.istore 5, 2) := by decide +kernel
theorem dX5_nearestOf_16 : decode cX5_nearestOf 16 = .ok (.iload 5, 2) := by decide +kernel
theorem dX5_nearestOf_18 : decode cX5_nearestOf 18 = .ok (.aload_n 1, 1) := by decide +kernel
theorem dX5_nearestOf_19 : decode cX5_nearestOf 19 = .ok (.getfield 43, 3) := by decide +kernel
theorem dX5_nearestOf_22 : decode cX5_nearestOf 22 = .ok (.if_icmp .ge 39, 3) := by decide +kernel
theorem dX5_nearestOf_25 : decode cX5_nearestOf 25 = .ok (.iload_n 2, 1) := by decide +kernel
theorem dX5_nearestOf_26 : decode cX5_nearestOf 26 = .ok (.iload 5, 2) := by decide +kernel
theorem dX5_nearestOf_28 : decode cX5_nearestOf 28 = .ok (.invokestatic 79, 3) := by decide +kernel
theorem dX5_nearestOf_31 : decode cX5_nearestOf 31 = .ok (.ifCond .eq 24, 3) := by decide +kernel
theorem dX5_nearestOf_34 : decode cX5_nearestOf 34 = .ok (.iload 4, 2) := by decide +kernel
theorem dX5_nearestOf_36 : decode cX5_nearestOf 36 = .ok (.iconst (-1), 1) := by decide +kernel
theorem dX5_nearestOf_37 : decode cX5_nearestOf 37 = .ok (.if_icmp .eq 14, 3) := by decide +kernel
theorem dX5_nearestOf_40 : decode cX5_nearestOf 40 = .ok (.aload_n 3, 1) := by decide +kernel
theorem dX5_nearestOf_41 : decode cX5_nearestOf 41 = .ok (.iload 5, 2) := by decide +kernel
theorem dX5_nearestOf_43 : decode cX5_nearestOf 43 = .ok (.iaload, 1) := by decide +kernel
theorem dX5_nearestOf_44 : decode cX5_nearestOf 44 = .ok (.aload_n 3, 1) := by decide +kernel
theorem dX5_nearestOf_45 : decode cX5_nearestOf 45 = .ok (.iload 4, 2) := by decide +kernel
theorem dX5_nearestOf_47 : decode cX5_nearestOf 47 = .ok (.iaload, 1) := by decide +kernel
theorem dX5_nearestOf_48 : decode cX5_nearestOf 48 = .ok (.if_icmp .ge 7, 3) := by decide +kernel
theorem dX5_nearestOf_51 : decode cX5_nearestOf 51 = .ok (.iload 5, 2) := by decide +kernel
theorem dX5_nearestOf_53 : decode cX5_nearestOf 53 = .ok (.istore 4, 2) := by decide +kernel
theorem dX5_nearestOf_55 : decode cX5_nearestOf 55 = .ok (.iinc 5 1, 3) := by decide +kernel
theorem dX5_nearestOf_58 : decode cX5_nearestOf 58 = .ok (.goto (-42), 3) := by decide +kernel
theorem dX5_nearestOf_61 : decode cX5_nearestOf 61 = .ok (.iload 4, 2) := by decide +kernel
theorem dX5_nearestOf_63 : decode cX5_nearestOf 63 = .ok (.ireturn, 1) := by decide +kernel
theorem dX5_findBridge_0 : decode cX5_findBridge 0 = .ok (.ldc 50, 2) := by decide +kernel
theorem dX5_findBridge_2 : decode cX5_findBridge 2 = .ok (.istore 4, 2) := by decide +kernel
theorem dX5_findBridge_4 : decode cX5_findBridge 4 = .ok (.aload_n 0, 1) := by decide +kernel
theorem dX5_findBridge_5 : decode cX5_findBridge 5 = .ok (.iconst (-1), 1) := by decide +kernel
theorem dX5_findBridge_6 : decode cX5_findBridge 6 = .ok (.putfield 98, 3) := by decide +kernel
theorem dX5_findBridge_9 : decode cX5_findBridge 9 = .ok (.aload_n 0, 1) := by decide +kernel
theorem dX5_findBridge_10 : decode cX5_findBridge 10 = .ok (.iconst (-1), 1) := by decide +kernel
theorem dX5_findBridge_11 : decode cX5_findBridge 11 = .ok (.putfield 101, 3) := by decide +kernel
theorem dX5_findBridge_14 : decode cX5_findBridge 14 = .ok (.iconst 0, 1) := by decide +kernel
theorem dX5_findBridge_15 : decode cX5_findBridge 15 = .ok (.istore 5, 2) := by decide +kernel
theorem dX5_findBridge_17 : decode cX5_findBridge 17 = .ok (.iload 5, 2) := by decide +kernel
theorem dX5_findBridge_19 : decode cX5_findBridge 19 = .ok (.aload_n 1, 1) := by decide +kernel
theorem dX5_findBridge_20 : decode cX5_findBridge 20 = .ok (.getfield 43, 3) := by decide +kernel
theorem dX5_findBridge_23 : decode cX5_findBridge 23 = .ok (.if_icmp .ge 106, 3) := by decide +kernel
theorem dX5_findBridge_26 : decode cX5_findBridge 26 = .ok (.iconst 0, 1) := by decide +kernel
theorem dX5_findBridge_27 : decode cX5_findBridge 27 = .ok (.istore 6, 2) := by decide +kernel
theorem dX5_findBridge_29 : decode cX5_findBridge 29 = .ok (.iload 6, 2) := by decide +kernel
theorem dX5_findBridge_31 : decode cX5_findBridge 31 = .ok (.aload_n 1, 1) := by decide +kernel
theorem dX5_findBridge_32 : decode cX5_findBridge 32 = .ok (.getfield 43, 3) := by decide +kernel
theorem dX5_findBridge_35 : decode cX5_findBridge 35 = .ok (.if_icmp .ge 88, 3) := by decide +kernel
theorem dX5_findBridge_38 : decode cX5_findBridge 38 = .ok (.iload_n 2, 1) := by decide +kernel
theorem dX5_findBridge_39 : decode cX5_findBridge 39 = .ok (.iload 5, 2) := by decide +kernel
theorem dX5_findBridge_41 : decode cX5_findBridge 41 = .ok (.invokestatic 79, 3) := by decide +kernel
theorem dX5_findBridge_44 : decode cX5_findBridge 44 = .ok (.ifCond .eq 79, 3) := by decide +kernel
theorem dX5_findBridge_47 : decode cX5_findBridge 47 = .ok (.aload_n 1, 1) := by decide +kernel
theorem dX5_findBridge_48 : decode cX5_findBridge 48 = .ok (.getfield 46, 3) := by decide +kernel
theorem dX5_findBridge_51 : decode cX5_findBridge 51 = .ok (.aload_n 0, 1) := by decide +kernel
theorem dX5_findBridge_52 : decode cX5_findBridge 52 = .ok (.getfield 18, 3) := by decide +kernel
theorem dX5_findBridge_55 : decode cX5_findBridge 55 = .ok (.aaload, 1) := by decide +kernel
theorem dX5_findBridge_56 : decode cX5_findBridge 56 = .ok (.iload 5, 2) := by decide +kernel
theorem dX5_findBridge_58 : decode cX5_findBridge 58 = .ok (.iaload, 1) := by decide +kernel
theorem dX5_findBridge_59 : decode cX5_findBridge 59 = .ok (.aload_n 1, 1) := by decide +kernel
theorem dX5_findBridge_60 : decode cX5_findBridge 60 = .ok (.iload 5, 2) := by decide +kernel
theorem dX5_findBridge_62 : decode cX5_findBridge 62 = .ok (.iload 6, 2) := by decide +kernel
theorem dX5_findBridge_64 : decode cX5_findBridge 64 = .ok (.invokevirtual 76, 3) := by decide +kernel
theorem dX5_findBridge_67 : decode cX5_findBridge 67 = .ok (.iadd, 1) := by decide +kernel
theorem dX5_findBridge_68 : decode cX5_findBridge 68 = .ok (.istore 7, 2) := by decide +kernel
theorem dX5_findBridge_70 : decode cX5_findBridge 70 = .ok (.iload_n 3, 1) := by decide +kernel
theorem dX5_findBridge_71 : decode cX5_findBridge 71 = .ok (.iload 6, 2) := by decide +kernel
theorem dX5_findBridge_73 : decode cX5_findBridge 73 = .ok (.invokestatic 79, 3) := by decide +kernel
theorem dX5_findBridge_76 : decode cX5_findBridge 76 = .ok (.ifCond .eq 41, 3) := by decide +kernel
theorem dX5_findBridge_79 : decode cX5_findBridge 79 = .ok (.aload_n 1, 1) := by decide +kernel
theorem dX5_findBridge_80 : decode cX5_findBridge 80 = .ok (.iload 5, 2) := by decide +kernel
theorem dX5_findBridge_82 : decode cX5_findBridge 82 = .ok (.iload 6, 2) := by decide +kernel
theorem dX5_findBridge_84 : decode cX5_findBridge 84 = .ok (.invokevirtual 15, 3) := by decide +kernel
theorem dX5_findBridge_87 : decode cX5_findBridge 87 = .ok (.aload_n 0, 1) := by decide +kernel
theorem dX5_findBridge_88 : decode cX5_findBridge 88 = .ok (.getfield 30, 3) := by decide +kernel
theorem dX5_findBridge_91 : decode cX5_findBridge 91 = .ok (.if_icmp .eq 26, 3) := by decide +kernel
theorem dX5_findBridge_94 : decode cX5_findBridge 94 = .ok (.iload 7, 2) := by decide +kernel
theorem dX5_findBridge_96 : decode cX5_findBridge 96 = .ok (.iload 4, 2) := by decide +kernel
theorem dX5_findBridge_98 : decode cX5_findBridge 98 = .ok (.if_icmp .ge 19, 3) := by decide +kernel
theorem dX5_findBridge_101 : decode cX5_findBridge 101 = .ok (.iload 7, 2) := by decide +kernel
theorem dX5_findBridge_103 : decode cX5_findBridge 103 = .ok (.istore 4, 2) := by decide +kernel
theorem dX5_findBridge_105 : decode cX5_findBridge 105 = .ok (.aload_n 0, 1) := by decide +kernel
theorem dX5_findBridge_106 : decode cX5_findBridge 106 = .ok (.iload 5, 2) := by decide +kernel
theorem dX5_findBridge_108 : decode cX5_findBridge 108 = .ok (.putfield 98, 3) := by decide +kernel
theorem dX5_findBridge_111 : decode cX5_findBridge 111 = .ok (.aload_n 0, 1) := by decide +kernel
theorem dX5_findBridge_112 : decode cX5_findBridge 112 = .ok (.iload 6, 2) := by decide +kernel
theorem dX5_findBridge_114 : decode cX5_findBridge 114 = .ok (.putfield 101, 3) := by decide +kernel
theorem dX5_findBridge_117 : decode cX5_findBridge 117 = .ok (.iinc 6 1, 3) := by decide +kernel
theorem dX5_findBridge_120 : decode cX5_findBridge 120 = .ok (.goto (-91), 3) := by decide +kernel
theorem dX5_findBridge_123 : decode cX5_findBridge 123 = .ok (.iinc 5 1, 3) := by decide +kernel
theorem dX5_findBridge_126 : decode cX5_findBridge 126 = .ok (.goto (-109), 3) := by decide +kernel
theorem dX5_findBridge_129 : decode cX5_findBridge 129 = .ok (.aload_n 0, 1) := by decide +kernel
theorem dX5_findBridge_130 : decode cX5_findBridge 130 = .ok (.getfield 98, 3) := by decide +kernel
theorem dX5_findBridge_133 : decode cX5_findBridge 133 = .ok (.iconst (-1), 1) := by decide +kernel
theorem dX5_findBridge_134 : decode cX5_findBridge 134 = .ok (.if_icmp .eq 7, 3) := by decide +kernel
theorem dX5_findBridge_137 : decode cX5_findBridge 137 = .ok (.iconst 1, 1) := by decide +kernel
theorem dX5_findBridge_138 : decode cX5_findBridge 138 = .ok (.goto 4, 3) := by decide +kernel
theorem dX5_findBridge_141 : decode cX5_findBridge 141 = .ok (.iconst 0, 1) := by decide +kernel
theorem dX5_findBridge_142 : decode cX5_findBridge 142 = .ok (.ireturn, 1) := by decide +kernel
theorem dX5_choose_0 : decode cX5_choose 0 = .ok (.aload_n 0, 1) := by decide +kernel
theorem dX5_choose_1 : decode cX5_choose 1 = .ok (.aload_n 0, 1) := by decide +kernel
theorem dX5_choose_2 : decode cX5_choose 2 = .ok (.aload_n 1, 1) := by decide +kernel
theorem dX5_choose_3 : decode cX5_choose 3 = .ok (.invokevirtual 83, 3) := by decide +kernel
theorem dX5_choose_6 : decode cX5_choose 6 = .ok (.putfield 104, 3) := by decide +kernel
theorem dX5_choose_9 : decode cX5_choose 9 = .ok (.aload_n 0, 1) := by decide +kernel
theorem dX5_choose_10 : decode cX5_choose 10 = .ok (.getfield 104, 3) := by decide +kernel
theorem dX5_choose_13 : decode cX5_choose 13 = .ok (.iconst (-1), 1) := by decide +kernel
theorem dX5_choose_14 : decode cX5_choose 14 = .ok (.if_icmp .eq 5, 3) := by decide +kernel
theorem dX5_choose_17 : decode cX5_choose 17 = .ok (.iconst 1, 1) := by decide +kernel
theorem dX5_choose_18 : decode cX5_choose 18 = .ok (.ireturn, 1) := by decide +kernel
theorem dX5_choose_19 : decode cX5_choose 19 = .ok (.aload_n 0, 1) := by decide +kernel
theorem dX5_choose_20 : decode cX5_choose 20 = .ok (.aload_n 1, 1) := by decide +kernel
theorem dX5_choose_21 : decode cX5_choose 21 = .ok (.invokevirtual 107, 3) := by decide +kernel
theorem dX5_choose_24 : decode cX5_choose 24 = .ok (.istore_n 2, 1) := by decide +kernel
theorem dX5_choose_25 : decode cX5_choose 25 = .ok (.aload_n 0, 1) := by decide +kernel
theorem dX5_choose_26 : decode cX5_choose 26 = .ok (.aload_n 1, 1) := by decide +kernel
theorem dX5_choose_27 : decode cX5_choose 27 = .ok (.invokevirtual 110, 3) := by decide +kernel
theorem dX5_choose_30 : decode cX5_choose 30 = .ok (.istore_n 3, 1) := by decide +kernel
theorem dX5_choose_31 : decode cX5_choose 31 = .ok (.aload_n 0, 1) := by decide +kernel
theorem dX5_choose_32 : decode cX5_choose 32 = .ok (.aload_n 0, 1) := by decide +kernel
theorem dX5_choose_33 : decode cX5_choose 33 = .ok (.aload_n 1, 1) := by decide +kernel
theorem dX5_choose_34 : decode cX5_choose 34 = .ok (.iload_n 2, 1) := by decide +kernel
theorem dX5_choose_35 : decode cX5_choose 35 = .ok (.iload_n 3, 1) := by decide +kernel
theorem dX5_choose_36 : decode cX5_choose 36 = .ok (.iand, 1) := by decide +kernel
theorem dX5_choose_37 : decode cX5_choose 37 = .ok (.invokevirtual 113, 3) := by decide +kernel
theorem dX5_choose_40 : decode cX5_choose 40 = .ok (.putfield 104, 3) := by decide +kernel
theorem dX5_choose_43 : decode cX5_choose 43 = .ok (.aload_n 0, 1) := by decide +kernel
theorem dX5_choose_44 : decode cX5_choose 44 = .ok (.getfield 104, 3) := by decide +kernel
theorem dX5_choose_47 : decode cX5_choose 47 = .ok (.iconst (-1), 1) := by decide +kernel
theorem dX5_choose_48 : decode cX5_choose 48 = .ok (.if_icmp .eq 5, 3) := by decide +kernel
theorem dX5_choose_51 : decode cX5_choose 51 = .ok (.iconst 2, 1) := by decide +kernel
theorem dX5_choose_52 : decode cX5_choose 52 = .ok (.ireturn, 1) := by decide +kernel
theorem dX5_choose_53 : decode cX5_choose 53 = .ok (.aload_n 0, 1) := by decide +kernel
theorem dX5_choose_54 : decode cX5_choose 54 = .ok (.aload_n 1, 1) := by decide +kernel
theorem dX5_choose_55 : decode cX5_choose 55 = .ok (.iload_n 2, 1) := by decide +kernel
theorem dX5_choose_56 : decode cX5_choose 56 = .ok (.iload_n 3, 1) := by decide +kernel
theorem dX5_choose_57 : decode cX5_choose 57 = .ok (.invokevirtual 116, 3) := by decide +kernel
theorem dX5_choose_60 : decode cX5_choose 60 = .ok (.istore 4, 2) := by decide +kernel
theorem dX5_choose_62 : decode cX5_choose 62 = .ok (.aload_n 0, 1) := by decide +kernel
theorem dX5_choose_63 : decode cX5_choose 63 = .ok (.aload_n 0, 1) := by decide +kernel
theorem dX5_choose_64 : decode cX5_choose 64 = .ok (.getfield 98, 3) := by decide +kernel
theorem dX5_choose_67 : decode cX5_choose 67 = .ok (.putfield 104, 3) := by decide +kernel
theorem dX5_choose_70 : decode cX5_choose 70 = .ok (.iload 4, 2) := by decide +kernel
theorem dX5_choose_72 : decode cX5_choose 72 = .ok (.ifCond .eq 7, 3) := by decide +kernel
theorem dX5_choose_75 : decode cX5_choose 75 = .ok (.iconst 3, 1) := by decide +kernel
theorem dX5_choose_76 : decode cX5_choose 76 = .ok (.goto 4, 3) := by decide +kernel
theorem dX5_choose_79 : decode cX5_choose 79 = .ok (.iconst 0, 1) := by decide +kernel
theorem dX5_choose_80 : decode cX5_choose 80 = .ok (.ireturn, 1) := by decide +kernel
theorem dX5_firstTowards_0 : decode cX5_firstTowards 0 = .ok (.aload_n 0, 1) := by decide +kernel
theorem dX5_firstTowards_1 : decode cX5_firstTowards 1 = .ok (.aload_n 1, 1) := by decide +kernel
theorem dX5_firstTowards_2 : decode cX5_firstTowards 2 = .ok (.invokevirtual 91, 3) := by decide +kernel
theorem dX5_firstTowards_5 : decode cX5_firstTowards 5 = .ok (.iload_n 2, 1) := by decide +kernel
theorem dX5_firstTowards_6 : decode cX5_firstTowards 6 = .ok (.invokestatic 79, 3) := by decide +kernel
theorem dX5_firstTowards_9 : decode cX5_firstTowards 9 = .ok (.ifCond .eq 13, 3) := by decide +kernel
theorem dX5_firstTowards_12 : decode cX5_firstTowards 12 = .ok (.aload_n 1, 1) := by decide +kernel
theorem dX5_firstTowards_13 : decode cX5_firstTowards 13 = .ok (.aload_n 0, 1) := by decide +kernel
theorem dX5_firstTowards_14 : decode cX5_firstTowards 14 = .ok (.getfield 18, 3) := by decide +kernel
theorem dX5_firstTowards_17 : decode cX5_firstTowards 17 = .ok (.iload_n 2, 1) := by decide +kernel
theorem dX5_firstTowards_18 : decode cX5_firstTowards 18 = .ok (.invokevirtual 9, 3) := by decide +kernel
theorem dX5_firstTowards_21 : decode cX5_firstTowards 21 = .ok (.ireturn, 1) := by decide +kernel
theorem dX5_firstTowards_22 : decode cX5_firstTowards 22 = .ok (.iconst 0, 1) := by decide +kernel
theorem dX5_firstTowards_23 : decode cX5_firstTowards 23 = .ok (.istore_n 3, 1) := by decide +kernel
theorem dX5_firstTowards_24 : decode cX5_firstTowards 24 = .ok (.iload_n 3, 1) := by decide +kernel
theorem dX5_firstTowards_25 : decode cX5_firstTowards 25 = .ok (.aload_n 1, 1) := by decide +kernel
theorem dX5_firstTowards_26 : decode cX5_firstTowards 26 = .ok (.getfield 43, 3) := by decide +kernel
theorem dX5_firstTowards_29 : decode cX5_firstTowards 29 = .ok (.if_icmp .ge 35, 3) := by decide +kernel
theorem dX5_firstTowards_32 : decode cX5_firstTowards 32 = .ok (.aload_n 0, 1) := by decide +kernel
theorem dX5_firstTowards_33 : decode cX5_firstTowards 33 = .ok (.getfield 58, 3) := by decide +kernel
theorem dX5_firstTowards_36 : decode cX5_firstTowards 36 = .ok (.iload_n 3, 1) := by decide +kernel
theorem dX5_firstTowards_37 : decode cX5_firstTowards 37 = .ok (.invokestatic 79, 3) := by decide +kernel
theorem dX5_firstTowards_40 : decode cX5_firstTowards 40 = .ok (.ifCond .eq 18, 3) := by decide +kernel
theorem dX5_firstTowards_43 : decode cX5_firstTowards 43 = .ok (.aload_n 0, 1) := by decide +kernel
theorem dX5_firstTowards_44 : decode cX5_firstTowards 44 = .ok (.aload_n 1, 1) := by decide +kernel
theorem dX5_firstTowards_45 : decode cX5_firstTowards 45 = .ok (.iload_n 3, 1) := by decide +kernel
theorem dX5_firstTowards_46 : decode cX5_firstTowards 46 = .ok (.invokevirtual 94, 3) := by decide +kernel
theorem dX5_firstTowards_49 : decode cX5_firstTowards 49 = .ok (.iload_n 2, 1) := by decide +kernel
theorem dX5_firstTowards_50 : decode cX5_firstTowards 50 = .ok (.invokestatic 79, 3) := by decide +kernel
theorem dX5_firstTowards_53 : decode cX5_firstTowards 53 = .ok (.ifCond .eq 5, 3) := by decide +kernel
theorem dX5_firstTowards_56 : decode cX5_firstTowards 56 = .ok (.iload_n 3, 1) := by decide +kernel
theorem dX5_firstTowards_57 : decode cX5_firstTowards 57 = .ok (.ireturn, 1) := by decide +kernel
theorem dX5_firstTowards_58 : decode cX5_firstTowards 58 = .ok (.iinc 3 1, 3) := by decide +kernel
theorem dX5_firstTowards_61 : decode cX5_firstTowards 61 = .ok (.goto (-37), 3) := by decide +kernel
theorem dX5_firstTowards_64 : decode cX5_firstTowards 64 = .ok (.iconst (-1), 1) := by decide +kernel
theorem dX5_firstTowards_65 : decode cX5_firstTowards 65 = .ok (.ireturn, 1) := by decide +kernel
theorem dX6_init_0 : decode cX6_init 0 = .ok (.aload_n 0, 1) := by decide +kernel
theorem dX6_init_1 : decode cX6_init 1 = .ok (.invokespecial 1, 3) := by decide +kernel
theorem dX6_init_4 : decode cX6_init 4 = .ok (.aload_n 0, 1) := by decide +kernel
theorem dX6_init_5 : decode cX6_init 5 = .ok (.new 7, 3) := by decide +kernel
theorem dX6_init_8 : decode cX6_init 8 = .ok (.dup, 1) := by decide +kernel
theorem dX6_init_9 : decode cX6_init 9 = .ok (.invokespecial 9, 3) := by decide +kernel
theorem dX6_init_12 : decode cX6_init 12 = .ok (.putfield 10, 3) := by decide +kernel
theorem dX6_init_15 : decode cX6_init 15 = .ok (.aload_n 0, 1) := by decide +kernel
theorem dX6_init_16 : decode cX6_init 16 = .ok (.new 16, 3) := by decide +kernel
theorem dX6_init_19 : decode cX6_init 19 = .ok (.dup, 1) := by decide +kernel
theorem dX6_init_20 : decode cX6_init 20 = .ok (.invokespecial 18, 3) := by decide +kernel
theorem dX6_init_23 : decode cX6_init 23 = .ok (.putfield 19, 3) := by decide +kernel
theorem dX6_init_26 : decode cX6_init 26 = .ok (.aload_n 0, 1) := by decide +kernel
theorem dX6_init_27 : decode cX6_init 27 = .ok (.new 23, 3) := by decide +kernel
theorem dX6_init_30 : decode cX6_init 30 = .ok (.dup, 1) := by decide +kernel
theorem dX6_init_31 : decode cX6_init 31 = .ok (.invokespecial 25, 3) := by decide +kernel
theorem dX6_init_34 : decode cX6_init 34 = .ok (.putfield 26, 3) := by decide +kernel
theorem dX6_init_37 : decode cX6_init 37 = .ok (.aload_n 0, 1) := by decide +kernel
theorem dX6_init_38 : decode cX6_init 38 = .ok (.new 30, 3) := by decide +kernel
theorem dX6_init_41 : decode cX6_init 41 = .ok (.dup, 1) := by decide +kernel
theorem dX6_init_42 : decode cX6_init 42 = .ok (.invokespecial 32, 3) := by decide +kernel
theorem dX6_init_45 : decode cX6_init 45 = .ok (.putfield 33, 3) := by decide +kernel
theorem dX6_init_48 : decode cX6_init 48 = .ok (.aload_n 0, 1) := by decide +kernel
theorem dX6_init_49 : decode cX6_init 49 = .ok (.new 37, 3) := by decide +kernel
theorem dX6_init_52 : decode cX6_init 52 = .ok (.dup, 1) := by decide +kernel
theorem dX6_init_53 : decode cX6_init 53 = .ok (.invokespecial 39, 3) := by decide +kernel
theorem dX6_init_56 : decode cX6_init 56 = .ok (.putfield 40, 3) := by decide +kernel
theorem dX6_init_59 : decode cX6_init 59 = .ok (.aload_n 0, 1) := by decide +kernel
theorem dX6_init_60 : decode cX6_init 60 = .ok (.new 44, 3) := by decide +kernel
theorem dX6_init_63 : decode cX6_init 63 = .ok (.dup, 1) := by decide +kernel
theorem dX6_init_64 : decode cX6_init 64 = .ok (.invokespecial 46, 3) := by decide +kernel
theorem dX6_init_67 : decode cX6_init 67 = .ok (.putfield 47, 3) := by decide +kernel
theorem dX6_init_70 : decode cX6_init 70 = .ok (.return_, 1) := by decide +kernel
theorem dX6_nodes_0 : decode cX6_nodes 0 = .ok (.iload_n 1, 1) := by decide +kernel
theorem dX6_nodes_1 : decode cX6_nodes 1 = .ok (.iconst 2, 1) := by decide +kernel
theorem dX6_nodes_2 : decode cX6_nodes 2 = .ok (.if_icmp .lt 9, 3) := by decide +kernel
theorem dX6_nodes_5 : decode cX6_nodes 5 = .ok (.iload_n 1, 1) := by decide +kernel
theorem dX6_nodes_6 : decode cX6_nodes 6 = .ok (.bipush 12, 2) := by decide +kernel
theorem dX6_nodes_8 : decode cX6_nodes 8 = .ok (.if_icmp .le 5, 3) := by decide +kernel
theorem dX6_nodes_11 : decode cX6_nodes 11 = .ok (.iconst (-1), 1) := by decide +kernel
theorem dX6_nodes_12 : decode cX6_nodes 12 = .ok (.ireturn, 1) := by decide +kernel
theorem dX6_nodes_13 : decode cX6_nodes 13 = .ok (.aload_n 0, 1) := by decide +kernel
theorem dX6_nodes_14 : decode cX6_nodes 14 = .ok (.getfield 10, 3) := by decide +kernel
theorem dX6_nodes_17 : decode cX6_nodes 17 = .ok (.getfield 51, 3) := by decide +kernel
theorem dX6_nodes_20 : decode cX6_nodes 20 = .ok (.istore_n 2, 1) := by decide +kernel
theorem dX6_nodes_21 : decode cX6_nodes 21 = .ok (.aload_n 0, 1) := by decide +kernel
theorem dX6_nodes_22 : decode cX6_nodes 22 = .ok (.getfield 10, 3) := by decide +kernel
theorem dX6_nodes_25 : decode cX6_nodes 25 = .ok (.iload_n 1, 1) := by decide +kernel
theorem dX6_nodes_26 : decode cX6_nodes 26 = .ok (.invokevirtual 55, 3) := by decide +kernel
theorem dX6_nodes_29 : decode cX6_nodes 29 = .ok (.aload_n 0, 1) := by decide +kernel
theorem dX6_nodes_30 : decode cX6_nodes 30 = .ok (.getfield 19, 3) := by decide +kernel
theorem dX6_nodes_33 : decode cX6_nodes 33 = .ok (.iconst 0, 1) := by decide +kernel
theorem dX6_nodes_34 : decode cX6_nodes 34 = .ok (.iconst 0, 1) := by decide +kernel
theorem dX6_nodes_35 : decode cX6_nodes 35 = .ok (.invokevirtual 59, 3) := by decide +kernel
theorem dX6_nodes_38 : decode cX6_nodes 38 = .ok (.iload_n 2, 1) := by decide +kernel
theorem dX6_nodes_39 : decode cX6_nodes 39 = .ok (.ireturn, 1) := by decide +kernel
theorem dX6_link_0 : decode cX6_link 0 = .ok (.aload_n 0, 1) := by decide +kernel
theorem dX6_link_1 : decode cX6_link 1 = .ok (.getfield 10, 3) := by decide +kernel
theorem dX6_link_4 : decode cX6_link 4 = .ok (.iload_n 1, 1) := by decide +kernel
theorem dX6_link_5 : decode cX6_link 5 = .ok (.iload_n 2, 1) := by decide +kernel
theorem dX6_link_6 : decode cX6_link 6 = .ok (.invokevirtual 63, 3) := by decide +kernel
theorem dX6_link_9 : decode cX6_link 9 = .ok (.ifCond .eq 10, 3) := by decide +kernel
theorem dX6_link_12 : decode cX6_link 12 = .ok (.iload_n 3, 1) := by decide +kernel
theorem dX6_link_13 : decode cX6_link 13 = .ok (.invokestatic 67, 3) := by decide +kernel
theorem dX6_link_16 : decode cX6_link 16 = .ok (.ifCond .ne 5, 3) := by decide +kernel
theorem dX6_link_19 : decode cX6_link 19 = .ok (.iconst (-1), 1) := by decide +kernel
theorem dX6_link_20 : decode cX6_link 20 = .ok (.ireturn, 1) := by decide +kernel
theorem dX6_link_21 : decode cX6_link 21 = .ok (.aload_n 0, 1) := by decide +kernel
theorem dX6_link_22 : decode cX6_link 22 = .ok (.getfield 10, 3) := by decide +kernel
theorem dX6_link_25 : decode cX6_link 25 = .ok (.iload_n 1, 1) := by decide +kernel
theorem dX6_link_26 : decode cX6_link 26 = .ok (.iload_n 2, 1) := by decide +kernel
theorem dX6_link_27 : decode cX6_link 27 = .ok (.invokevirtual 71, 3) := by decide +kernel
theorem dX6_link_30 : decode cX6_link 30 = .ok (.iconst (-1), 1) := by decide +kernel
theorem dX6_link_31 : decode cX6_link 31 = .ok (.if_icmp .ne 15, 3) := by decide +kernel
theorem dX6_link_34 : decode cX6_link 34 = .ok (.aload_n 0, 1) := by decide +kernel
theorem dX6_link_35 : decode cX6_link 35 = .ok (.getfield 10, 3) := by decide +kernel
theorem dX6_link_38 : decode cX6_link 38 = .ok (.getfield 51, 3) := by decide +kernel
theorem dX6_link_41 : decode cX6_link 41 = .ok (.bipush 24, 2) := by decide +kernel
theorem dX6_link_43 : decode cX6_link 43 = .ok (.if_icmp .lt 5, 3) := by decide +kernel
theorem dX6_link_46 : decode cX6_link 46 = .ok (.iconst (-1), 1) := by decide +kernel
theorem dX6_link_47 : decode cX6_link 47 = .ok (.ireturn, 1) := by decide +kernel
theorem dX6_link_48 : decode cX6_link 48 = .ok (.aload_n 0, 1) := by decide +kernel
theorem dX6_link_49 : decode cX6_link 49 = .ok (.getfield 10, 3) := by decide +kernel
theorem dX6_link_52 : decode cX6_link 52 = .ok (.iload_n 1, 1) := by decide +kernel
theorem dX6_link_53 : decode cX6_link 53 = .ok (.iload_n 2, 1) := by decide +kernel
theorem dX6_link_54 : decode cX6_link 54 = .ok (.iload_n 3, 1) := by decide +kernel
theorem dX6_link_55 : decode cX6_link 55 = .ok (.invokevirtual 75, 3) := by decide +kernel
theorem dX6_link_58 : decode cX6_link 58 = .ok (.ireturn, 1) := by decide +kernel
theorem dX6_cost_0 : decode cX6_cost 0 = .ok (.aload_n 0, 1) := by decide +kernel
theorem dX6_cost_1 : decode cX6_cost 1 = .ok (.getfield 10, 3) := by decide +kernel
theorem dX6_cost_4 : decode cX6_cost 4 = .ok (.iload_n 1, 1) := by decide +kernel
theorem dX6_cost_5 : decode cX6_cost 5 = .ok (.invokevirtual 79, 3) := by decide +kernel
theorem dX6_cost_8 : decode cX6_cost 8 = .ok (.ifCond .eq 10, 3) := by decide +kernel
theorem dX6_cost_11 : decode cX6_cost 11 = .ok (.iload_n 2, 1) := by decide +kernel
theorem dX6_cost_12 : decode cX6_cost 12 = .ok (.invokestatic 67, 3) := by decide +kernel
theorem dX6_cost_15 : decode cX6_cost 15 = .ok (.ifCond .ne 5, 3) := by decide +kernel
theorem dX6_cost_18 : decode cX6_cost 18 = .ok (.iconst (-1), 1) := by decide +kernel
theorem dX6_cost_19 : decode cX6_cost 19 = .ok (.ireturn, 1) := by decide +kernel
theorem dX6_cost_20 : decode cX6_cost 20 = .ok (.aload_n 0, 1) := by decide +kernel
theorem dX6_cost_21 : decode cX6_cost 21 = .ok (.getfield 10, 3) := by decide +kernel
theorem dX6_cost_24 : decode cX6_cost 24 = .ok (.getfield 82, 3) := by decide +kernel
theorem dX6_cost_27 : decode cX6_cost 27 = .ok (.iload_n 1, 1) := by decide +kernel
theorem dX6_cost_28 : decode cX6_cost 28 = .ok (.iaload, 1) := by decide +kernel
theorem dX6_cost_29 : decode cX6_cost 29 = .ok (.istore_n 3, 1) := by decide +kernel
theorem dX6_cost_30 : decode cX6_cost 30 = .ok (.aload_n 0, 1) := by decide +kernel
theorem dX6_cost_31 : decode cX6_cost 31 = .ok (.getfield 10, 3) := by decide +kernel
theorem dX6_cost_34 : decode cX6_cost 34 = .ok (.iload_n 1, 1) := by decide +kernel
theorem dX6_cost_35 : decode cX6_cost 35 = .ok (.iload_n 2, 1) := by decide +kernel
theorem dX6_cost_36 : decode cX6_cost 36 = .ok (.invokevirtual 86, 3) := by decide +kernel
theorem dX6_cost_39 : decode cX6_cost 39 = .ok (.iload_n 3, 1) := by decide +kernel
theorem dX6_cost_40 : decode cX6_cost 40 = .ok (.ireturn, 1) := by decide +kernel
theorem dX6_groups_0 : decode cX6_groups 0 = .ok (.aload_n 0, 1) := by decide +kernel
theorem dX6_groups_1 : decode cX6_groups 1 = .ok (.getfield 10, 3) := by decide +kernel
theorem dX6_groups_4 : decode cX6_groups 4 = .ok (.iload_n 1, 1) := by decide +kernel
theorem dX6_groups_5 : decode cX6_groups 5 = .ok (.invokevirtual 79, 3) := by decide +kernel
theorem dX6_groups_8 : decode cX6_groups 8 = .ok (.ifCond .eq 14, 3) := by decide +kernel
theorem dX6_groups_11 : decode cX6_groups 11 = .ok (.iload_n 2, 1) := by decide +kernel
theorem dX6_groups_12 : decode cX6_groups 12 = .ok (.ifCond .lt 10, 3) := by decide +kernel
theorem dX6_groups_15 : decode cX6_groups 15 = .ok (.iload_n 2, 1) := by decide +kernel
theorem dX6_groups_16 : decode cX6_groups 16 = .ok (.sipush 255, 3) := by decide +kernel
theorem dX6_groups_19 : decode cX6_groups 19 = .ok (.if_icmp .le 5, 3) := by decide +kernel
theorem dX6_groups_22 : decode cX6_groups 22 = .ok (.iconst (-1), 1) := by decide +kernel
theorem dX6_groups_23 : decode cX6_groups 23 = .ok (.ireturn, 1) := by decide +kernel
theorem dX6_groups_24 : decode cX6_groups 24 = .ok (.aload_n 0, 1) := by decide +kernel
theorem dX6_groups_25 : decode cX6_groups 25 = .ok (.getfield 10, 3) := by decide +kernel
theorem dX6_groups_28 : decode cX6_groups 28 = .ok (.getfield 89, 3) := by decide +kernel
theorem dX6_groups_31 : decode cX6_groups 31 = .ok (.iload_n 1, 1) := by decide +kernel
theorem dX6_groups_32 : decode cX6_groups 32 = .ok (.iaload, 1) := by decide +kernel
theorem dX6_groups_33 : decode cX6_groups 33 = .ok (.istore_n 3, 1) := by decide +kernel
theorem dX6_groups_34 : decode cX6_groups 34 = .ok (.aload_n 0, 1) := by decide +kernel
theorem dX6_groups_35 : decode cX6_groups 35 = .ok (.getfield 10, 3) := by decide +kernel
theorem dX6_groups_38 : decode cX6_groups 38 = .ok (.getfield 89, 3) := by decide +kernel
theorem dX6_groups_41 : decode cX6_groups 41 = .ok (.iload_n 1, 1) := by decide +kernel
theorem dX6_groups_42 : decode cX6_groups 42 = .ok (.iload_n 2, 1) := by decide +kernel
theorem dX6_groups_43 : decode cX6_groups 43 = .ok (.iastore, 1) := by decide +kernel
theorem dX6_groups_44 : decode cX6_groups 44 = .ok (.iload_n 3, 1) := by decide +kernel
theorem dX6_groups_45 : decode cX6_groups 45 = .ok (.ireturn, 1) := by decide +kernel
theorem dX6_down_0 : decode cX6_down 0 = .ok (.aload_n 0, 1) := by decide +kernel
theorem dX6_down_1 : decode cX6_down 1 = .ok (.iload_n 1, 1) := by decide +kernel
theorem dX6_down_2 : decode cX6_down 2 = .ok (.iload_n 2, 1) := by decide +kernel
theorem dX6_down_3 : decode cX6_down 3 = .ok (.invokevirtual 92, 3) := by decide +kernel
theorem dX6_down_6 : decode cX6_down 6 = .ok (.ifCond .ne 5, 3) := by decide +kernel
theorem dX6_down_9 : decode cX6_down 9 = .ok (.iconst 0, 1) := by decide +kernel
theorem dX6_down_10 : decode cX6_down 10 = .ok (.ireturn, 1) := by decide +kernel
theorem dX6_down_11 : decode cX6_down 11 = .ok (.aload_n 0, 1) := by decide +kernel
theorem dX6_down_12 : decode cX6_down 12 = .ok (.getfield 19, 3) := by decide +kernel
theorem dX6_down_15 : decode cX6_down 15 = .ok (.iload_n 1, 1) := by decide +kernel
theorem dX6_down_16 : decode cX6_down 16 = .ok (.iload_n 1, 1) := by decide +kernel
theorem dX6_down_17 : decode cX6_down 17 = .ok (.ifCond .ne 7, 3) := by decide +kernel
theorem dX6_down_20 : decode cX6_down 20 = .ok (.iconst 0, 1) := by decide +kernel
theorem dX6_down_21 : decode cX6_down 21 = .ok (.goto 4, 3) := by decide +kernel
theorem dX6_down_24 : decode cX6_down 24 = .ok (.iload_n 2, 1) := by decide +kernel
theorem dX6_down_25 : decode cX6_down 25 = .ok (.invokevirtual 59, 3) := by decide +kernel
theorem dX6_down_28 : decode cX6_down 28 = .ok (.iconst 1, 1) := by decide +kernel
theorem dX6_down_29 : decode cX6_down 29 = .ok (.ireturn, 1) := by decide +kernel
theorem dX6_of_0 : decode cX6_of 0 = .ok (.aload_n 0, 1) := by decide +kernel
theorem dX6_of_1 : decode cX6_of 1 = .ok (.getfield 10, 3) := by decide +kernel
theorem dX6_of_4 : decode cX6_of 4 = .ok (.iload_n 1, 1) := by decide +kernel
theorem dX6_of_5 : decode cX6_of 5 = .ok (.invokevirtual 79, 3) := by decide +kernel
theorem dX6_of_8 : decode cX6_of 8 = .ok (.ifCond .ne 5, 3) := by decide +kernel
theorem dX6_of_11 : decode cX6_of 11 = .ok (.iconst (-1), 1) := by decide +kernel
theorem dX6_of_12 : decode cX6_of 12 = .ok (.ireturn, 1) := by decide +kernel
theorem dX6_of_13 : decode cX6_of 13 = .ok (.iload_n 2, 1) := by decide +kernel
theorem dX6_of_14 : decode cX6_of 14 = .ok (.tableswitch 119 0 5 #[38, 48, 58, 68, 78, 99], 38) := by decide +kernel
theorem dX6_of_52 : decode cX6_of 52 = .ok (.aload_n 0, 1) := by decide +kernel
theorem dX6_of_53 : decode cX6_of 53 = .ok (.getfield 10, 3) := by decide +kernel
theorem dX6_of_56 : decode cX6_of 56 = .ok (.getfield 95, 3) := by decide +kernel
theorem dX6_of_59 : decode cX6_of 59 = .ok (.iload_n 1, 1) := by decide +kernel
theorem dX6_of_60 : decode cX6_of 60 = .ok (.iaload, 1) := by decide +kernel
theorem dX6_of_61 : decode cX6_of 61 = .ok (.ireturn, 1) := by decide +kernel
theorem dX6_of_62 : decode cX6_of 62 = .ok (.aload_n 0, 1) := by decide +kernel
theorem dX6_of_63 : decode cX6_of 63 = .ok (.getfield 10, 3) := by decide +kernel
theorem dX6_of_66 : decode cX6_of 66 = .ok (.getfield 98, 3) := by decide +kernel
theorem dX6_of_69 : decode cX6_of 69 = .ok (.iload_n 1, 1) := by decide +kernel
theorem dX6_of_70 : decode cX6_of 70 = .ok (.iaload, 1) := by decide +kernel
theorem dX6_of_71 : decode cX6_of 71 = .ok (.ireturn, 1) := by decide +kernel
theorem dX6_of_72 : decode cX6_of 72 = .ok (.aload_n 0, 1) := by decide +kernel
theorem dX6_of_73 : decode cX6_of 73 = .ok (.getfield 10, 3) := by decide +kernel
theorem dX6_of_76 : decode cX6_of 76 = .ok (.getfield 82, 3) := by decide +kernel
theorem dX6_of_79 : decode cX6_of 79 = .ok (.iload_n 1, 1) := by decide +kernel
theorem dX6_of_80 : decode cX6_of 80 = .ok (.iaload, 1) := by decide +kernel
theorem dX6_of_81 : decode cX6_of 81 = .ok (.ireturn, 1) := by decide +kernel
theorem dX6_of_82 : decode cX6_of 82 = .ok (.aload_n 0, 1) := by decide +kernel
theorem dX6_of_83 : decode cX6_of 83 = .ok (.getfield 10, 3) := by decide +kernel
theorem dX6_of_86 : decode cX6_of 86 = .ok (.getfield 89, 3) := by decide +kernel
theorem dX6_of_89 : decode cX6_of 89 = .ok (.iload_n 1, 1) := by decide +kernel
theorem dX6_of_90 : decode cX6_of 90 = .ok (.iaload, 1) := by decide +kernel
theorem dX6_of_91 : decode cX6_of 91 = .ok (.ireturn, 1) := by decide +kernel
theorem dX6_of_92 : decode cX6_of 92 = .ok (.aload_n 0, 1) := by decide +kernel
theorem dX6_of_93 : decode cX6_of 93 = .ok (.getfield 19, 3) := by decide +kernel
theorem dX6_of_96 : decode cX6_of 96 = .ok (.aload_n 0, 1) := by decide +kernel
theorem dX6_of_97 : decode cX6_of 97 = .ok (.getfield 10, 3) := by decide +kernel
theorem dX6_of_100 : decode cX6_of 100 = .ok (.iload_n 1, 1) := by decide +kernel
theorem dX6_of_101 : decode cX6_of 101 = .ok (.invokevirtual 101, 3) := by decide +kernel
theorem dX6_of_104 : decode cX6_of 104 = .ok (.ifCond .eq 7, 3) := by decide +kernel
theorem dX6_of_107 : decode cX6_of 107 = .ok (.iconst 1, 1) := by decide +kernel
theorem dX6_of_108 : decode cX6_of 108 = .ok (.goto 4, 3) := by decide +kernel
theorem dX6_of_111 : decode cX6_of 111 = .ok (.iconst 0, 1) := by decide +kernel
theorem dX6_of_112 : decode cX6_of 112 = .ok (.ireturn, 1) := by decide +kernel
theorem dX6_of_113 : decode cX6_of 113 = .ok (.aload_n 0, 1) := by decide +kernel
theorem dX6_of_114 : decode cX6_of 114 = .ok (.getfield 10, 3) := by decide +kernel
theorem dX6_of_117 : decode cX6_of 117 = .ok (.invokevirtual 105, 3) := by decide +kernel
theorem dX6_of_120 : decode cX6_of 120 = .ok (.aload_n 0, 1) := by decide +kernel
theorem dX6_of_121 : decode cX6_of 121 = .ok (.getfield 40, 3) := by decide +kernel
theorem dX6_of_124 : decode cX6_of 124 = .ok (.aload_n 0, 1) := by decide +kernel
theorem dX6_of_125 : decode cX6_of 125 = .ok (.getfield 10, 3) := by decide +kernel
theorem dX6_of_128 : decode cX6_of 128 = .ok (.iload_n 1, 1) := by decide +kernel
theorem dX6_of_129 : decode cX6_of 129 = .ok (.invokevirtual 108, 3) := by decide +kernel
theorem dX6_of_132 : decode cX6_of 132 = .ok (.ireturn, 1) := by decide +kernel
theorem dX6_of_133 : decode cX6_of 133 = .ok (.iconst (-1), 1) := by decide +kernel
theorem dX6_of_134 : decode cX6_of 134 = .ok (.ireturn, 1) := by decide +kernel
theorem dX6_between_0 : decode cX6_between 0 = .ok (.aload_n 0, 1) := by decide +kernel
theorem dX6_between_1 : decode cX6_between 1 = .ok (.getfield 10, 3) := by decide +kernel
theorem dX6_between_4 : decode cX6_between 4 = .ok (.iload_n 1, 1) := by decide +kernel
theorem dX6_between_5 : decode cX6_between 5 = .ok (.iload_n 2, 1) := by decide +kernel
theorem dX6_between_6 : decode cX6_between 6 = .ok (.invokevirtual 71, 3) := by decide +kernel
theorem dX6_between_9 : decode cX6_between 9 = .ok (.ireturn, 1) := by decide +kernel
theorem dX6_far_0 : decode cX6_far 0 = .ok (.aload_n 0, 1) := by decide +kernel
theorem dX6_far_1 : decode cX6_far 1 = .ok (.getfield 10, 3) := by decide +kernel
theorem dX6_far_4 : decode cX6_far 4 = .ok (.iload_n 1, 1) := by decide +kernel
theorem dX6_far_5 : decode cX6_far 5 = .ok (.invokevirtual 112, 3) := by decide +kernel
theorem dX6_far_8 : decode cX6_far 8 = .ok (.ifCond .eq 14, 3) := by decide +kernel
theorem dX6_far_11 : decode cX6_far 11 = .ok (.aload_n 0, 1) := by decide +kernel
theorem dX6_far_12 : decode cX6_far 12 = .ok (.getfield 10, 3) := by decide +kernel
theorem dX6_far_15 : decode cX6_far 15 = .ok (.iload_n 2, 1) := by decide +kernel
theorem dX6_far_16 : decode cX6_far 16 = .ok (.invokevirtual 112, 3) := by decide +kernel
theorem dX6_far_19 : decode cX6_far 19 = .ok (.ifCond .ne 5, 3) := by decide +kernel
theorem dX6_far_22 : decode cX6_far 22 = .ok (.iconst (-1), 1) := by decide +kernel
theorem dX6_far_23 : decode cX6_far 23 = .ok (.ireturn, 1) := by decide +kernel
theorem dX6_far_24 : decode cX6_far 24 = .ok (.aload_n 0, 1) := by decide +kernel
theorem dX6_far_25 : decode cX6_far 25 = .ok (.getfield 10, 3) := by decide +kernel
theorem dX6_far_28 : decode cX6_far 28 = .ok (.invokevirtual 105, 3) := by decide +kernel
theorem dX6_far_31 : decode cX6_far 31 = .ok (.aload_n 0, 1) := by decide +kernel
theorem dX6_far_32 : decode cX6_far 32 = .ok (.getfield 10, 3) := by decide +kernel
theorem dX6_far_35 : decode cX6_far 35 = .ok (.getfield 115, 3) := by decide +kernel
theorem dX6_far_38 : decode cX6_far 38 = .ok (.iload_n 1, 1) := by decide +kernel
theorem dX6_far_39 : decode cX6_far 39 = .ok (.aaload, 1) := by decide +kernel
theorem dX6_far_40 : decode cX6_far 40 = .ok (.iload_n 2, 1) := by decide +kernel
theorem dX6_far_41 : decode cX6_far 41 = .ok (.iaload, 1) := by decide +kernel
theorem dX6_far_42 : decode cX6_far 42 = .ok (.invokestatic 119, 3) := by decide +kernel
theorem dX6_far_45 : decode cX6_far 45 = .ok (.ireturn, 1) := by decide +kernel
theorem dX6_next_0 : decode cX6_next 0 = .ok (.aload_n 0, 1) := by decide +kernel
theorem dX6_next_1 : decode cX6_next 1 = .ok (.getfield 10, 3) := by decide +kernel
theorem dX6_next_4 : decode cX6_next 4 = .ok (.invokevirtual 105, 3) := by decide +kernel
theorem dX6_next_7 : decode cX6_next 7 = .ok (.aload_n 0, 1) := by decide +kernel
theorem dX6_next_8 : decode cX6_next 8 = .ok (.getfield 10, 3) := by decide +kernel
theorem dX6_next_11 : decode cX6_next 11 = .ok (.iload_n 1, 1) := by decide +kernel
theorem dX6_next_12 : decode cX6_next 12 = .ok (.iload_n 2, 1) := by decide +kernel
theorem dX6_next_13 : decode cX6_next 13 = .ok (.invokevirtual 123, 3) := by decide +kernel
theorem dX6_next_16 : decode cX6_next 16 = .ok (.ireturn, 1) := by decide +kernel
theorem dX6_way_0 : decode cX6_way 0 = .ok (.aload_n 0, 1) := by decide +kernel
theorem dX6_way_1 : decode cX6_way 1 = .ok (.getfield 10, 3) := by decide +kernel
theorem dX6_way_4 : decode cX6_way 4 = .ok (.invokevirtual 105, 3) := by decide +kernel
theorem dX6_way_7 : decode cX6_way 7 = .ok (.aload_n 0, 1) := by decide +kernel
theorem dX6_way_8 : decode cX6_way 8 = .ok (.getfield 10, 3) := by decide +kernel
theorem dX6_way_11 : decode cX6_way 11 = .ok (.iload_n 1, 1) := by decide +kernel
theorem dX6_way_12 : decode cX6_way 12 = .ok (.iload_n 2, 1) := by decide +kernel
theorem dX6_way_13 : decode cX6_way 13 = .ok (.iload_n 3, 1) := by decide +kernel
theorem dX6_way_14 : decode cX6_way 14 = .ok (.invokevirtual 126, 3) := by decide +kernel
theorem dX6_way_17 : decode cX6_way 17 = .ok (.istore 4, 2) := by decide +kernel
theorem dX6_way_19 : decode cX6_way 19 = .ok (.iload 4, 2) := by decide +kernel
theorem dX6_way_21 : decode cX6_way 21 = .ok (.iconst (-1), 1) := by decide +kernel
theorem dX6_way_22 : decode cX6_way 22 = .ok (.if_icmp .ne 11, 3) := by decide +kernel
theorem dX6_way_25 : decode cX6_way 25 = .ok (.new 129, 3) := by decide +kernel
theorem dX6_way_28 : decode cX6_way 28 = .ok (.dup, 1) := by decide +kernel
theorem dX6_way_29 : decode cX6_way 29 = .ok (.invokespecial 131, 3) := by decide +kernel
theorem dX6_way_32 : decode cX6_way 32 = .ok (.athrow, 1) := by decide +kernel
theorem dX6_way_33 : decode cX6_way 33 = .ok (.iload 4, 2) := by decide +kernel
theorem dX6_way_35 : decode cX6_way 35 = .ok (.ireturn, 1) := by decide +kernel
theorem dX6_ones_0 : decode cX6_ones 0 = .ok (.aload_n 0, 1) := by decide +kernel
theorem dX6_ones_1 : decode cX6_ones 1 = .ok (.getfield 10, 3) := by decide +kernel
theorem dX6_ones_4 : decode cX6_ones 4 = .ok (.invokevirtual 105, 3) := by decide +kernel
theorem dX6_ones_7 : decode cX6_ones 7 = .ok (.aload_n 0, 1) := by decide +kernel
theorem dX6_ones_8 : decode cX6_ones 8 = .ok (.getfield 26, 3) := by decide +kernel
theorem dX6_ones_11 : decode cX6_ones 11 = .ok (.aload_n 0, 1) := by decide +kernel
theorem dX6_ones_12 : decode cX6_ones 12 = .ok (.getfield 10, 3) := by decide +kernel
theorem dX6_ones_15 : decode cX6_ones 15 = .ok (.iload_n 1, 1) := by decide +kernel
theorem dX6_ones_16 : decode cX6_ones 16 = .ok (.iload_n 2, 1) := by decide +kernel
theorem dX6_ones_17 : decode cX6_ones 17 = .ok (.invokevirtual 132, 3) := by decide +kernel
theorem dX6_ones_20 : decode cX6_ones 20 = .ok (.ifCond .eq 14, 3) := by decide +kernel
theorem dX6_ones_23 : decode cX6_ones 23 = .ok (.aload_n 0, 1) := by decide +kernel
theorem dX6_ones_24 : decode cX6_ones 24 = .ok (.getfield 26, 3) := by decide +kernel
theorem dX6_ones_27 : decode cX6_ones 27 = .ok (.iload_n 3, 1) := by decide +kernel
theorem dX6_ones_28 : decode cX6_ones 28 = .ok (.invokevirtual 136, 3) := by decide +kernel
theorem dX6_ones_31 : decode cX6_ones 31 = .ok (.goto 4, 3) := by decide +kernel
theorem dX6_ones_34 : decode cX6_ones 34 = .ok (.iconst 0, 1) := by decide +kernel
theorem dX6_ones_35 : decode cX6_ones 35 = .ok (.ireturn, 1) := by decide +kernel
theorem dX6_alternate_0 : decode cX6_alternate 0 = .ok (.aload_n 0, 1) := by decide +kernel
theorem dX6_alternate_1 : decode cX6_alternate 1 = .ok (.getfield 10, 3) := by decide +kernel
theorem dX6_alternate_4 : decode cX6_alternate 4 = .ok (.invokevirtual 105, 3) := by decide +kernel
theorem dX6_alternate_7 : decode cX6_alternate 7 = .ok (.aload_n 0, 1) := by decide +kernel
theorem dX6_alternate_8 : decode cX6_alternate 8 = .ok (.getfield 26, 3) := by decide +kernel
theorem dX6_alternate_11 : decode cX6_alternate 11 = .ok (.aload_n 0, 1) := by decide +kernel
theorem dX6_alternate_12 : decode cX6_alternate 12 = .ok (.getfield 10, 3) := by decide +kernel
theorem dX6_alternate_15 : decode cX6_alternate 15 = .ok (.iload_n 1, 1) := by decide +kernel
theorem dX6_alternate_16 : decode cX6_alternate 16 = .ok (.iload_n 2, 1) := by decide +kernel
theorem dX6_alternate_17 : decode cX6_alternate 17 = .ok (.invokevirtual 132, 3) := by decide +kernel
theorem dX6_alternate_20 : decode cX6_alternate 20 = .ok (.ifCond .eq 17, 3) := by decide +kernel
theorem dX6_alternate_23 : decode cX6_alternate 23 = .ok (.aload_n 0, 1) := by decide +kernel
theorem dX6_alternate_24 : decode cX6_alternate 24 = .ok (.getfield 26, 3) := by decide +kernel
theorem dX6_alternate_27 : decode cX6_alternate 27 = .ok (.aload_n 0, 1) := by decide +kernel
theorem dX6_alternate_28 : decode cX6_alternate 28 = .ok (.getfield 10, 3) := by decide +kernel
theorem dX6_alternate_31 : decode cX6_alternate 31 = .ok (.invokevirtual 139, 3) := by decide +kernel
theorem dX6_alternate_34 : decode cX6_alternate 34 = .ok (.goto 4, 3) := by decide +kernel
theorem dX6_alternate_37 : decode cX6_alternate 37 = .ok (.iconst (-1), 1) := by decide +kernel
theorem dX6_alternate_38 : decode cX6_alternate 38 = .ok (.ireturn, 1) := by decide +kernel
theorem dX6_space_0 : decode cX6_space 0 = .ok (.aload_n 0, 1) := by decide +kernel
theorem dX6_space_1 : decode cX6_space 1 = .ok (.getfield 10, 3) := by decide +kernel
theorem dX6_space_4 : decode cX6_space 4 = .ok (.invokevirtual 105, 3) := by decide +kernel
theorem dX6_space_7 : decode cX6_space 7 = .ok (.aload_n 0, 1) := by decide +kernel
theorem dX6_space_8 : decode cX6_space 8 = .ok (.getfield 26, 3) := by decide +kernel
theorem dX6_space_11 : decode cX6_space 11 = .ok (.aload_n 0, 1) := by decide +kernel
theorem dX6_space_12 : decode cX6_space 12 = .ok (.getfield 10, 3) := by decide +kernel
theorem dX6_space_15 : decode cX6_space 15 = .ok (.iload_n 1, 1) := by decide +kernel
theorem dX6_space_16 : decode cX6_space 16 = .ok (.iload_n 2, 1) := by decide +kernel
theorem dX6_space_17 : decode cX6_space 17 = .ok (.invokevirtual 132, 3) := by decide +kernel
theorem dX6_space_20 : decode cX6_space 20 = .ok (.ifCond .ne 5, 3) := by decide +kernel
theorem dX6_space_23 : decode cX6_space 23 = .ok (.iconst 0, 1) := by decide +kernel
theorem dX6_space_24 : decode cX6_space 24 = .ok (.ireturn, 1) := by decide +kernel
theorem dX6_space_25 : decode cX6_space 25 = .ok (.iload_n 3, 1) := by decide +kernel
theorem dX6_space_26 : decode cX6_space 26 = .ok (.tableswitch 62 0 2 #[26, 38, 50], 26) := by decide +kernel
theorem dX6_space_52 : decode cX6_space 52 = .ok (.aload_n 0, 1) := by decide +kernel
theorem dX6_space_53 : decode cX6_space 53 = .ok (.getfield 26, 3) := by decide +kernel
theorem dX6_space_56 : decode cX6_space 56 = .ok (.aload_n 0, 1) := by decide +kernel
theorem dX6_space_57 : decode cX6_space 57 = .ok (.getfield 10, 3) := by decide +kernel
theorem dX6_space_60 : decode cX6_space 60 = .ok (.invokevirtual 143, 3) := by decide +kernel
theorem dX6_space_63 : decode cX6_space 63 = .ok (.ireturn, 1) := by decide +kernel
theorem dX6_space_64 : decode cX6_space 64 = .ok (.aload_n 0, 1) := by decide +kernel
theorem dX6_space_65 : decode cX6_space 65 = .ok (.getfield 26, 3) := by decide +kernel
theorem dX6_space_68 : decode cX6_space 68 = .ok (.aload_n 0, 1) := by decide +kernel
theorem dX6_space_69 : decode cX6_space 69 = .ok (.getfield 10, 3) := by decide +kernel
theorem dX6_space_72 : decode cX6_space 72 = .ok (.invokevirtual 146, 3) := by decide +kernel
theorem dX6_space_75 : decode cX6_space 75 = .ok (.ireturn, 1) := by decide +kernel
theorem dX6_space_76 : decode cX6_space 76 = .ok (.aload_n 0, 1) := by decide +kernel
theorem dX6_space_77 : decode cX6_space 77 = .ok (.getfield 26, 3) := by decide +kernel
theorem dX6_space_80 : decode cX6_space 80 = .ok (.aload_n 0, 1) := by decide +kernel
theorem dX6_space_81 : decode cX6_space 81 = .ok (.getfield 10, 3) := by decide +kernel
theorem dX6_space_84 : decode cX6_space 84 = .ok (.invokevirtual 149, 3) := by decide +kernel
theorem dX6_space_87 : decode cX6_space 87 = .ok (.ireturn, 1) := by decide +kernel
theorem dX6_space_88 : decode cX6_space 88 = .ok (.iconst 0, 1) := by decide +kernel
theorem dX6_space_89 : decode cX6_space 89 = .ok (.ireturn, 1) := by decide +kernel
theorem dX6_tunnel_0 : decode cX6_tunnel 0 = .ok (.aload_n 0, 1) := by decide +kernel
theorem dX6_tunnel_1 : decode cX6_tunnel 1 = .ok (.getfield 10, 3) := by decide +kernel
theorem dX6_tunnel_4 : decode cX6_tunnel 4 = .ok (.invokevirtual 105, 3) := by decide +kernel
theorem dX6_tunnel_7 : decode cX6_tunnel 7 = .ok (.aload_n 0, 1) := by decide +kernel
theorem dX6_tunnel_8 : decode cX6_tunnel 8 = .ok (.getfield 26, 3) := by decide +kernel
theorem dX6_tunnel_11 : decode cX6_tunnel 11 = .ok (.aload_n 0, 1) := by decide +kernel
theorem dX6_tunnel_12 : decode cX6_tunnel 12 = .ok (.getfield 10, 3) := by decide +kernel
theorem dX6_tunnel_15 : decode cX6_tunnel 15 = .ok (.iload_n 1, 1) := by decide +kernel
theorem dX6_tunnel_16 : decode cX6_tunnel 16 = .ok (.iload_n 2, 1) := by decide +kernel
theorem dX6_tunnel_17 : decode cX6_tunnel 17 = .ok (.invokevirtual 132, 3) := by decide +kernel
theorem dX6_tunnel_20 : decode cX6_tunnel 20 = .ok (.ifCond .ne 5, 3) := by decide +kernel
theorem dX6_tunnel_23 : decode cX6_tunnel 23 = .ok (.iconst (-1), 1) := by decide +kernel
theorem dX6_tunnel_24 : decode cX6_tunnel 24 = .ok (.ireturn, 1) := by decide +kernel
theorem dX6_tunnel_25 : decode cX6_tunnel 25 = .ok (.aload_n 0, 1) := by decide +kernel
theorem dX6_tunnel_26 : decode cX6_tunnel 26 = .ok (.getfield 26, 3) := by decide +kernel
theorem dX6_tunnel_29 : decode cX6_tunnel 29 = .ok (.aload_n 0, 1) := by decide +kernel
theorem dX6_tunnel_30 : decode cX6_tunnel 30 = .ok (.getfield 10, 3) := by decide +kernel
theorem dX6_tunnel_33 : decode cX6_tunnel 33 = .ok (.invokevirtual 146, 3) := by decide +kernel
theorem dX6_tunnel_36 : decode cX6_tunnel 36 = .ok (.istore 4, 2) := by decide +kernel
theorem dX6_tunnel_38 : decode cX6_tunnel 38 = .ok (.aload_n 0, 1) := by decide +kernel
theorem dX6_tunnel_39 : decode cX6_tunnel 39 = .ok (.getfield 26, 3) := by decide +kernel
theorem dX6_tunnel_42 : decode cX6_tunnel 42 = .ok (.aload_n 0, 1) := by decide +kernel
theorem dX6_tunnel_43 : decode cX6_tunnel 43 = .ok (.getfield 10, 3) := by decide +kernel
theorem dX6_tunnel_46 : decode cX6_tunnel 46 = .ok (.invokevirtual 149, 3) := by decide +kernel
theorem dX6_tunnel_49 : decode cX6_tunnel 49 = .ok (.istore 5, 2) := by decide +kernel
theorem dX6_tunnel_51 : decode cX6_tunnel 51 = .ok (.iload_n 3, 1) := by decide +kernel
theorem dX6_tunnel_52 : decode cX6_tunnel 52 = .ok (.tableswitch 105 0 2 #[28, 45, 75], 28) := by decide +kernel
theorem dX6_tunnel_80 : decode cX6_tunnel 80 = .ok (.aload_n 0, 1) := by decide +kernel
theorem dX6_tunnel_81 : decode cX6_tunnel 81 = .ok (.getfield 26, 3) := by decide +kernel
theorem dX6_tunnel_84 : decode cX6_tunnel 84 = .ok (.aload_n 0, 1) := by decide +kernel
theorem dX6_tunnel_85 : decode cX6_tunnel 85 = .ok (.getfield 10, 3) := by decide +kernel
theorem dX6_tunnel_88 : decode cX6_tunnel 88 = .ok (.iload 4, 2) := by decide +kernel
theorem dX6_tunnel_90 : decode cX6_tunnel 90 = .ok (.iload 5, 2) := by decide +kernel
theorem dX6_tunnel_92 : decode cX6_tunnel 92 = .ok (.iand, 1) := by decide +kernel
theorem dX6_tunnel_93 : decode cX6_tunnel 93 = .ok (.invokevirtual 152, 3) := by decide +kernel
theorem dX6_tunnel_96 : decode cX6_tunnel 96 = .ok (.ireturn, 1) := by decide +kernel
theorem dX6_tunnel_97 : decode cX6_tunnel 97 = .ok (.aload_n 0, 1) := by decide +kernel
theorem dX6_tunnel_98 : decode cX6_tunnel 98 = .ok (.getfield 26, 3) := by decide +kernel
theorem dX6_tunnel_101 : decode cX6_tunnel 101 = .ok (.aload_n 0, 1) := by decide +kernel
theorem dX6_tunnel_102 : decode cX6_tunnel 102 = .ok (.getfield 10, 3) := by decide +kernel
theorem dX6_tunnel_105 : decode cX6_tunnel 105 = .ok (.iload 4, 2) := by decide +kernel
theorem dX6_tunnel_107 : decode cX6_tunnel 107 = .ok (.iload 5, 2) := by decide +kernel
theorem dX6_tunnel_109 : decode cX6_tunnel 109 = .ok (.invokevirtual 155, 3) := by decide +kernel
theorem dX6_tunnel_112 : decode cX6_tunnel 112 = .ok (.ifCond .eq 13, 3) := by decide +kernel
theorem dX6_tunnel_115 : decode cX6_tunnel 115 = .ok (.aload_n 0, 1) := by decide +kernel
theorem dX6_tunnel_116 : decode cX6_tunnel 116 = .ok (.getfield 26, 3) := by decide +kernel
theorem dX6_tunnel_119 : decode cX6_tunnel 119 = .ok (.getfield 158, 3) := by decide +kernel
theorem dX6_tunnel_122 : decode cX6_tunnel 122 = .ok (.goto 4, 3) := by decide +kernel
theorem dX6_tunnel_125 : decode cX6_tunnel 125 = .ok (.iconst (-1), 1) := by decide +kernel
theorem dX6_tunnel_126 : decode cX6_tunnel 126 = .ok (.ireturn, 1) := by decide +kernel
theorem dX6_tunnel_127 : decode cX6_tunnel 127 = .ok (.aload_n 0, 1) := by decide +kernel
theorem dX6_tunnel_128 : decode cX6_tunnel 128 = .ok (.getfield 26, 3) := by decide +kernel
theorem dX6_tunnel_131 : decode cX6_tunnel 131 = .ok (.aload_n 0, 1) := by decide +kernel
theorem dX6_tunnel_132 : decode cX6_tunnel 132 = .ok (.getfield 10, 3) := by decide +kernel
theorem dX6_tunnel_135 : decode cX6_tunnel 135 = .ok (.iload 4, 2) := by decide +kernel
theorem dX6_tunnel_137 : decode cX6_tunnel 137 = .ok (.iload 5, 2) := by decide +kernel
theorem dX6_tunnel_139 : decode cX6_tunnel 139 = .ok (.invokevirtual 155, 3) := by decide +kernel
theorem dX6_tunnel_142 : decode cX6_tunnel 142 = .ok (.ifCond .eq 13, 3) := by decide +kernel
theorem dX6_tunnel_145 : decode cX6_tunnel 145 = .ok (.aload_n 0, 1) := by decide +kernel
theorem dX6_tunnel_146 : decode cX6_tunnel 146 = .ok (.getfield 26, 3) := by decide +kernel
theorem dX6_tunnel_149 : decode cX6_tunnel 149 = .ok (.getfield 161, 3) := by decide +kernel
theorem dX6_tunnel_152 : decode cX6_tunnel 152 = .ok (.goto 4, 3) := by decide +kernel
theorem dX6_tunnel_155 : decode cX6_tunnel 155 = .ok (.iconst (-1), 1) := by decide +kernel
theorem dX6_tunnel_156 : decode cX6_tunnel 156 = .ok (.ireturn, 1) := by decide +kernel
theorem dX6_tunnel_157 : decode cX6_tunnel 157 = .ok (.iconst (-1), 1) := by decide +kernel
theorem dX6_tunnel_158 : decode cX6_tunnel 158 = .ok (.ireturn, 1) := by decide +kernel
theorem dX6_repair_0 : decode cX6_repair 0 = .ok (.aload_n 0, 1) := by decide +kernel
theorem dX6_repair_1 : decode cX6_repair 1 = .ok (.getfield 10, 3) := by decide +kernel
theorem dX6_repair_4 : decode cX6_repair 4 = .ok (.invokevirtual 105, 3) := by decide +kernel
theorem dX6_repair_7 : decode cX6_repair 7 = .ok (.aload_n 0, 1) := by decide +kernel
theorem dX6_repair_8 : decode cX6_repair 8 = .ok (.getfield 26, 3) := by decide +kernel
theorem dX6_repair_11 : decode cX6_repair 11 = .ok (.aload_n 0, 1) := by decide +kernel
theorem dX6_repair_12 : decode cX6_repair 12 = .ok (.getfield 10, 3) := by decide +kernel
theorem dX6_repair_15 : decode cX6_repair 15 = .ok (.iload_n 1, 1) := by decide +kernel
theorem dX6_repair_16 : decode cX6_repair 16 = .ok (.iload_n 2, 1) := by decide +kernel
theorem dX6_repair_17 : decode cX6_repair 17 = .ok (.invokevirtual 132, 3) := by decide +kernel
theorem dX6_repair_20 : decode cX6_repair 20 = .ok (.ifCond .eq 17, 3) := by decide +kernel
theorem dX6_repair_23 : decode cX6_repair 23 = .ok (.aload_n 0, 1) := by decide +kernel
theorem dX6_repair_24 : decode cX6_repair 24 = .ok (.getfield 26, 3) := by decide +kernel
theorem dX6_repair_27 : decode cX6_repair 27 = .ok (.aload_n 0, 1) := by decide +kernel
theorem dX6_repair_28 : decode cX6_repair 28 = .ok (.getfield 10, 3) := by decide +kernel
theorem dX6_repair_31 : decode cX6_repair 31 = .ok (.invokevirtual 164, 3) := by decide +kernel
theorem dX6_repair_34 : decode cX6_repair 34 = .ok (.goto 4, 3) := by decide +kernel
theorem dX6_repair_37 : decode cX6_repair 37 = .ok (.iconst (-1), 1) := by decide +kernel
theorem dX6_repair_38 : decode cX6_repair 38 = .ok (.ireturn, 1) := by decide +kernel
theorem dX6_send_0 : decode cX6_send 0 = .ok (.aload_n 0, 1) := by decide +kernel
theorem dX6_send_1 : decode cX6_send 1 = .ok (.iload_n 1, 1) := by decide +kernel
theorem dX6_send_2 : decode cX6_send 2 = .ok (.iload_n 2, 1) := by decide +kernel
theorem dX6_send_3 : decode cX6_send 3 = .ok (.invokevirtual 167, 3) := by decide +kernel
theorem dX6_send_6 : decode cX6_send 6 = .ok (.ifCond .ne 5, 3) := by decide +kernel
theorem dX6_send_9 : decode cX6_send 9 = .ok (.iconst (-1), 1) := by decide +kernel
theorem dX6_send_10 : decode cX6_send 10 = .ok (.ireturn, 1) := by decide +kernel
theorem dX6_send_11 : decode cX6_send 11 = .ok (.aload_n 0, 1) := by decide +kernel
theorem dX6_send_12 : decode cX6_send 12 = .ok (.getfield 10, 3) := by decide +kernel
theorem dX6_send_15 : decode cX6_send 15 = .ok (.invokevirtual 105, 3) := by decide +kernel
theorem dX6_send_18 : decode cX6_send 18 = .ok (.aload_n 0, 1) := by decide +kernel
theorem dX6_send_19 : decode cX6_send 19 = .ok (.getfield 33, 3) := by decide +kernel
theorem dX6_send_22 : decode cX6_send 22 = .ok (.aload_n 0, 1) := by decide +kernel
theorem dX6_send_23 : decode cX6_send 23 = .ok (.getfield 10, 3) := by decide +kernel
theorem dX6_send_26 : decode cX6_send 26 = .ok (.aload_n 0, 1) := by decide +kernel
theorem dX6_send_27 : decode cX6_send 27 = .ok (.getfield 26, 3) := by decide +kernel
theorem dX6_send_30 : decode cX6_send 30 = .ok (.aload_n 0, 1) := by decide +kernel
theorem dX6_send_31 : decode cX6_send 31 = .ok (.getfield 19, 3) := by decide +kernel
theorem dX6_send_34 : decode cX6_send 34 = .ok (.aload_n 0, 1) := by decide +kernel
theorem dX6_send_35 : decode cX6_send 35 = .ok (.getfield 10, 3) := by decide +kernel
theorem dX6_send_38 : decode cX6_send 38 = .ok (.invokevirtual 170, 3) := by decide +kernel
theorem dX6_send_41 : decode cX6_send 41 = .ok (.iload_n 1, 1) := by decide +kernel
theorem dX6_send_42 : decode cX6_send 42 = .ok (.iload_n 2, 1) := by decide +kernel
theorem dX6_send_43 : decode cX6_send 43 = .ok (.invokevirtual 173, 3) := by decide +kernel
theorem dX6_send_46 : decode cX6_send 46 = .ok (.iload_n 3, 1) := by decide +kernel
theorem dX6_send_47 : decode cX6_send 47 = .ok (.tableswitch 61 0 3 #[29, 37, 45, 53], 29) := by decide +kernel
theorem dX6_send_76 : decode cX6_send 76 = .ok (.aload_n 0, 1) := by decide +kernel
theorem dX6_send_77 : decode cX6_send 77 = .ok (.getfield 33, 3) := by decide +kernel
theorem dX6_send_80 : decode cX6_send 80 = .ok (.getfield 177, 3) := by decide +kernel
theorem dX6_send_83 : decode cX6_send 83 = .ok (.ireturn, 1) := by decide +kernel
theorem dX6_send_84 : decode cX6_send 84 = .ok (.aload_n 0, 1) := by decide +kernel
theorem dX6_send_85 : decode cX6_send 85 = .ok (.getfield 33, 3) := by decide +kernel
theorem dX6_send_88 : decode cX6_send 88 = .ok (.getfield 180, 3) := by decide +kernel
theorem dX6_send_91 : decode cX6_send 91 = .ok (.ireturn, 1) := by decide +kernel
theorem dX6_send_92 : decode cX6_send 92 = .ok (.aload_n 0, 1) := by decide +kernel
theorem dX6_send_93 : decode cX6_send 93 = .ok (.getfield 33, 3) := by decide +kernel
theorem dX6_send_96 : decode cX6_send 96 = .ok (.getfield 183, 3) := by decide +kernel
theorem dX6_send_99 : decode cX6_send 99 = .ok (.ireturn, 1) := by decide +kernel
theorem dX6_send_100 : decode cX6_send 100 = .ok (.aload_n 0, 1) := by decide +kernel
theorem dX6_send_101 : decode cX6_send 101 = .ok (.getfield 33, 3) := by decide +kernel
theorem dX6_send_104 : decode cX6_send 104 = .ok (.getfield 186, 3) := by decide +kernel
theorem dX6_send_107 : decode cX6_send 107 = .ok (.ireturn, 1) := by decide +kernel
theorem dX6_send_108 : decode cX6_send 108 = .ok (.iconst (-1), 1) := by decide +kernel
theorem dX6_send_109 : decode cX6_send 109 = .ok (.ireturn, 1) := by decide +kernel
theorem dX6_trace_0 : decode cX6_trace 0 = .ok (.aload_n 0, 1) := by decide +kernel
theorem dX6_trace_1 : decode cX6_trace 1 = .ok (.iload_n 1, 1) := by decide +kernel
theorem dX6_trace_2 : decode cX6_trace 2 = .ok (.iload_n 2, 1) := by decide +kernel
theorem dX6_trace_3 : decode cX6_trace 3 = .ok (.invokevirtual 167, 3) := by decide +kernel
theorem dX6_trace_6 : decode cX6_trace 6 = .ok (.ifCond .ne 5, 3) := by decide +kernel
theorem dX6_trace_9 : decode cX6_trace 9 = .ok (.iconst (-1), 1) := by decide +kernel
theorem dX6_trace_10 : decode cX6_trace 10 = .ok (.ireturn, 1) := by decide +kernel
theorem dX6_trace_11 : decode cX6_trace 11 = .ok (.aload_n 0, 1) := by decide +kernel
theorem dX6_trace_12 : decode cX6_trace 12 = .ok (.getfield 10, 3) := by decide +kernel
theorem dX6_trace_15 : decode cX6_trace 15 = .ok (.invokevirtual 105, 3) := by decide +kernel
theorem dX6_trace_18 : decode cX6_trace 18 = .ok (.aload_n 0, 1) := by decide +kernel
theorem dX6_trace_19 : decode cX6_trace 19 = .ok (.getfield 33, 3) := by decide +kernel
theorem dX6_trace_22 : decode cX6_trace 22 = .ok (.aload_n 0, 1) := by decide +kernel
theorem dX6_trace_23 : decode cX6_trace 23 = .ok (.getfield 10, 3) := by decide +kernel
theorem dX6_trace_26 : decode cX6_trace 26 = .ok (.aload_n 0, 1) := by decide +kernel
theorem dX6_trace_27 : decode cX6_trace 27 = .ok (.getfield 26, 3) := by decide +kernel
theorem dX6_trace_30 : decode cX6_trace 30 = .ok (.aload_n 0, 1) := by decide +kernel
theorem dX6_trace_31 : decode cX6_trace 31 = .ok (.getfield 19, 3) := by decide +kernel
theorem dX6_trace_34 : decode cX6_trace 34 = .ok (.aload_n 0, 1) := by decide +kernel
theorem dX6_trace_35 : decode cX6_trace 35 = .ok (.getfield 10, 3) := by decide +kernel
theorem dX6_trace_38 : decode cX6_trace 38 = .ok (.invokevirtual 170, 3) := by decide +kernel
theorem dX6_trace_41 : decode cX6_trace 41 = .ok (.iload_n 1, 1) := by decide +kernel
theorem dX6_trace_42 : decode cX6_trace 42 = .ok (.iload_n 2, 1) := by decide +kernel
theorem dX6_trace_43 : decode cX6_trace 43 = .ok (.invokevirtual 173, 3) := by decide +kernel
theorem dX6_trace_46 : decode cX6_trace 46 = .ok (.aload_n 0, 1) := by decide +kernel
theorem dX6_trace_47 : decode cX6_trace 47 = .ok (.getfield 33, 3) := by decide +kernel
theorem dX6_trace_50 : decode cX6_trace 50 = .ok (.iload_n 3, 1) := by decide +kernel
theorem dX6_trace_51 : decode cX6_trace 51 = .ok (.invokevirtual 189, 3) := by decide +kernel
theorem dX6_trace_54 : decode cX6_trace 54 = .ok (.ireturn, 1) := by decide +kernel
theorem dX6_behind_0 : decode cX6_behind 0 = .ok (.aload_n 0, 1) := by decide +kernel
theorem dX6_behind_1 : decode cX6_behind 1 = .ok (.getfield 10, 3) := by decide +kernel
theorem dX6_behind_4 : decode cX6_behind 4 = .ok (.iload_n 1, 1) := by decide +kernel
theorem dX6_behind_5 : decode cX6_behind 5 = .ok (.invokevirtual 79, 3) := by decide +kernel
theorem dX6_behind_8 : decode cX6_behind 8 = .ok (.ifCond .eq 25, 3) := by decide +kernel
theorem dX6_behind_11 : decode cX6_behind 11 = .ok (.aload_n 0, 1) := by decide +kernel
theorem dX6_behind_12 : decode cX6_behind 12 = .ok (.getfield 10, 3) := by decide +kernel
theorem dX6_behind_15 : decode cX6_behind 15 = .ok (.iload_n 2, 1) := by decide +kernel
theorem dX6_behind_16 : decode cX6_behind 16 = .ok (.invokevirtual 112, 3) := by decide +kernel
theorem dX6_behind_19 : decode cX6_behind 19 = .ok (.ifCond .eq 14, 3) := by decide +kernel
theorem dX6_behind_22 : decode cX6_behind 22 = .ok (.aload_n 0, 1) := by decide +kernel
theorem dX6_behind_23 : decode cX6_behind 23 = .ok (.getfield 10, 3) := by decide +kernel
theorem dX6_behind_26 : decode cX6_behind 26 = .ok (.iload_n 3, 1) := by decide +kernel
theorem dX6_behind_27 : decode cX6_behind 27 = .ok (.invokevirtual 112, 3) := by decide +kernel
theorem dX6_behind_30 : decode cX6_behind 30 = .ok (.ifCond .ne 5, 3) := by decide +kernel
theorem dX6_behind_33 : decode cX6_behind 33 = .ok (.iconst (-1), 1) := by decide +kernel
theorem dX6_behind_34 : decode cX6_behind 34 = .ok (.ireturn, 1) := by decide +kernel
theorem dX6_behind_35 : decode cX6_behind 35 = .ok (.aload_n 0, 1) := by decide +kernel
theorem dX6_behind_36 : decode cX6_behind 36 = .ok (.getfield 40, 3) := by decide +kernel
theorem dX6_behind_39 : decode cX6_behind 39 = .ok (.aload_n 0, 1) := by decide +kernel
theorem dX6_behind_40 : decode cX6_behind 40 = .ok (.getfield 10, 3) := by decide +kernel
theorem dX6_behind_43 : decode cX6_behind 43 = .ok (.iload_n 1, 1) := by decide +kernel
theorem dX6_behind_44 : decode cX6_behind 44 = .ok (.iload_n 2, 1) := by decide +kernel
theorem dX6_behind_45 : decode cX6_behind 45 = .ok (.iload_n 3, 1) := by decide +kernel
theorem dX6_behind_46 : decode cX6_behind 46 = .ok (.invokevirtual 192, 3) := by decide +kernel
theorem dX6_behind_49 : decode cX6_behind 49 = .ok (.invokestatic 119, 3) := by decide +kernel
theorem dX6_behind_52 : decode cX6_behind 52 = .ok (.ireturn, 1) := by decide +kernel
theorem dX6_nextBehind_0 : decode cX6_nextBehind 0 = .ok (.aload_n 0, 1) := by decide +kernel
theorem dX6_nextBehind_1 : decode cX6_nextBehind 1 = .ok (.getfield 10, 3) := by decide +kernel
theorem dX6_nextBehind_4 : decode cX6_nextBehind 4 = .ok (.iload_n 1, 1) := by decide +kernel
theorem dX6_nextBehind_5 : decode cX6_nextBehind 5 = .ok (.invokevirtual 79, 3) := by decide +kernel
theorem dX6_nextBehind_8 : decode cX6_nextBehind 8 = .ok (.ifCond .eq 25, 3) := by decide +kernel
theorem dX6_nextBehind_11 : decode cX6_nextBehind 11 = .ok (.aload_n 0, 1) := by decide +kernel
theorem dX6_nextBehind_12 : decode cX6_nextBehind 12 = .ok (.getfield 10, 3) := by decide +kernel
theorem dX6_nextBehind_15 : decode cX6_nextBehind 15 = .ok (.iload_n 2, 1) := by decide +kernel
theorem dX6_nextBehind_16 : decode cX6_nextBehind 16 = .ok (.invokevirtual 112, 3) := by decide +kernel
theorem dX6_nextBehind_19 : decode cX6_nextBehind 19 = .ok (.ifCond .eq 14, 3) := by decide +kernel
theorem dX6_nextBehind_22 : decode cX6_nextBehind 22 = .ok (.aload_n 0, 1) := by decide +kernel
theorem dX6_nextBehind_23 : decode cX6_nextBehind 23 = .ok (.getfield 10, 3) := by decide +kernel
theorem dX6_nextBehind_26 : decode cX6_nextBehind 26 = .ok (.iload_n 3, 1) := by decide +kernel
theorem dX6_nextBehind_27 : decode cX6_nextBehind 27 = .ok (.invokevirtual 112, 3) := by decide +kernel
theorem dX6_nextBehind_30 : decode cX6_nextBehind 30 = .ok (.ifCond .ne 5, 3) := by decide +kernel
theorem dX6_nextBehind_33 : decode cX6_nextBehind 33 = .ok (.iconst (-1), 1) := by decide +kernel
theorem dX6_nextBehind_34 : decode cX6_nextBehind 34 = .ok (.ireturn, 1) := by decide +kernel
theorem dX6_nextBehind_35 : decode cX6_nextBehind 35 = .ok (.aload_n 0, 1) := by decide +kernel
theorem dX6_nextBehind_36 : decode cX6_nextBehind 36 = .ok (.getfield 40, 3) := by decide +kernel
theorem dX6_nextBehind_39 : decode cX6_nextBehind 39 = .ok (.aload_n 0, 1) := by decide +kernel
theorem dX6_nextBehind_40 : decode cX6_nextBehind 40 = .ok (.getfield 10, 3) := by decide +kernel
theorem dX6_nextBehind_43 : decode cX6_nextBehind 43 = .ok (.iload_n 1, 1) := by decide +kernel
theorem dX6_nextBehind_44 : decode cX6_nextBehind 44 = .ok (.iload_n 2, 1) := by decide +kernel
theorem dX6_nextBehind_45 : decode cX6_nextBehind 45 = .ok (.iload_n 3, 1) := by decide +kernel
theorem dX6_nextBehind_46 : decode cX6_nextBehind 46 = .ok (.invokevirtual 196, 3) := by decide +kernel
theorem dX6_nextBehind_49 : decode cX6_nextBehind 49 = .ok (.ireturn, 1) := by decide +kernel
theorem dX6_hit_0 : decode cX6_hit 0 = .ok (.aload_n 0, 1) := by decide +kernel
theorem dX6_hit_1 : decode cX6_hit 1 = .ok (.getfield 10, 3) := by decide +kernel
theorem dX6_hit_4 : decode cX6_hit 4 = .ok (.iload_n 1, 1) := by decide +kernel
theorem dX6_hit_5 : decode cX6_hit 5 = .ok (.invokevirtual 79, 3) := by decide +kernel
theorem dX6_hit_8 : decode cX6_hit 8 = .ok (.ifCond .eq 14, 3) := by decide +kernel
theorem dX6_hit_11 : decode cX6_hit 11 = .ok (.aload_n 0, 1) := by decide +kernel
theorem dX6_hit_12 : decode cX6_hit 12 = .ok (.getfield 10, 3) := by decide +kernel
theorem dX6_hit_15 : decode cX6_hit 15 = .ok (.iload_n 2, 1) := by decide +kernel
theorem dX6_hit_16 : decode cX6_hit 16 = .ok (.invokevirtual 112, 3) := by decide +kernel
theorem dX6_hit_19 : decode cX6_hit 19 = .ok (.ifCond .ne 5, 3) := by decide +kernel
theorem dX6_hit_22 : decode cX6_hit 22 = .ok (.iconst 0, 1) := by decide +kernel
theorem dX6_hit_23 : decode cX6_hit 23 = .ok (.ireturn, 1) := by decide +kernel
theorem dX6_hit_24 : decode cX6_hit 24 = .ok (.aload_n 0, 1) := by decide +kernel
theorem dX6_hit_25 : decode cX6_hit 25 = .ok (.getfield 10, 3) := by decide +kernel
theorem dX6_hit_28 : decode cX6_hit 28 = .ok (.invokevirtual 105, 3) := by decide +kernel
theorem dX6_hit_31 : decode cX6_hit 31 = .ok (.aload_n 0, 1) := by decide +kernel
theorem dX6_hit_32 : decode cX6_hit 32 = .ok (.getfield 40, 3) := by decide +kernel
theorem dX6_hit_35 : decode cX6_hit 35 = .ok (.aload_n 0, 1) := by decide +kernel
theorem dX6_hit_36 : decode cX6_hit 36 = .ok (.getfield 10, 3) := by decide +kernel
theorem dX6_hit_39 : decode cX6_hit 39 = .ok (.iload_n 1, 1) := by decide +kernel
theorem dX6_hit_40 : decode cX6_hit 40 = .ok (.iload_n 2, 1) := by decide +kernel
theorem dX6_hit_41 : decode cX6_hit 41 = .ok (.invokevirtual 199, 3) := by decide +kernel
theorem dX6_hit_44 : decode cX6_hit 44 = .ok (.ireturn, 1) := by decide +kernel
theorem dX6_holds_0 : decode cX6_holds 0 = .ok (.aload_n 0, 1) := by decide +kernel
theorem dX6_holds_1 : decode cX6_holds 1 = .ok (.getfield 10, 3) := by decide +kernel
theorem dX6_holds_4 : decode cX6_holds 4 = .ok (.iload_n 1, 1) := by decide +kernel
theorem dX6_holds_5 : decode cX6_holds 5 = .ok (.invokevirtual 79, 3) := by decide +kernel
theorem dX6_holds_8 : decode cX6_holds 8 = .ok (.ifCond .eq 14, 3) := by decide +kernel
theorem dX6_holds_11 : decode cX6_holds 11 = .ok (.aload_n 0, 1) := by decide +kernel
theorem dX6_holds_12 : decode cX6_holds 12 = .ok (.getfield 10, 3) := by decide +kernel
theorem dX6_holds_15 : decode cX6_holds 15 = .ok (.iload_n 3, 1) := by decide +kernel
theorem dX6_holds_16 : decode cX6_holds 16 = .ok (.invokevirtual 112, 3) := by decide +kernel
theorem dX6_holds_19 : decode cX6_holds 19 = .ok (.ifCond .ne 5, 3) := by decide +kernel
theorem dX6_holds_22 : decode cX6_holds 22 = .ok (.iconst (-1), 1) := by decide +kernel
theorem dX6_holds_23 : decode cX6_holds 23 = .ok (.ireturn, 1) := by decide +kernel
theorem dX6_holds_24 : decode cX6_holds 24 = .ok (.aload_n 0, 1) := by decide +kernel
theorem dX6_holds_25 : decode cX6_holds 25 = .ok (.getfield 10, 3) := by decide +kernel
theorem dX6_holds_28 : decode cX6_holds 28 = .ok (.invokevirtual 105, 3) := by decide +kernel
theorem dX6_holds_31 : decode cX6_holds 31 = .ok (.iload_n 2, 1) := by decide +kernel
theorem dX6_holds_32 : decode cX6_holds 32 = .ok (.iconst (-1), 1) := by decide +kernel
theorem dX6_holds_33 : decode cX6_holds 33 = .ok (.if_icmp .ne 17, 3) := by decide +kernel
theorem dX6_holds_36 : decode cX6_holds 36 = .ok (.aload_n 0, 1) := by decide +kernel
theorem dX6_holds_37 : decode cX6_holds 37 = .ok (.getfield 40, 3) := by decide +kernel
theorem dX6_holds_40 : decode cX6_holds 40 = .ok (.aload_n 0, 1) := by decide +kernel
theorem dX6_holds_41 : decode cX6_holds 41 = .ok (.getfield 10, 3) := by decide +kernel
theorem dX6_holds_44 : decode cX6_holds 44 = .ok (.iload_n 1, 1) := by decide +kernel
theorem dX6_holds_45 : decode cX6_holds 45 = .ok (.iload_n 3, 1) := by decide +kernel
theorem dX6_holds_46 : decode cX6_holds 46 = .ok (.invokevirtual 203, 3) := by decide +kernel
theorem dX6_holds_49 : decode cX6_holds 49 = .ok (.ireturn, 1) := by decide +kernel
theorem dX6_holds_50 : decode cX6_holds 50 = .ok (.aload_n 0, 1) := by decide +kernel
theorem dX6_holds_51 : decode cX6_holds 51 = .ok (.getfield 10, 3) := by decide +kernel
theorem dX6_holds_54 : decode cX6_holds 54 = .ok (.iload_n 2, 1) := by decide +kernel
theorem dX6_holds_55 : decode cX6_holds 55 = .ok (.invokevirtual 112, 3) := by decide +kernel
theorem dX6_holds_58 : decode cX6_holds 58 = .ok (.ifCond .eq 20, 3) := by decide +kernel
theorem dX6_holds_61 : decode cX6_holds 61 = .ok (.aload_n 0, 1) := by decide +kernel
theorem dX6_holds_62 : decode cX6_holds 62 = .ok (.getfield 40, 3) := by decide +kernel
theorem dX6_holds_65 : decode cX6_holds 65 = .ok (.aload_n 0, 1) := by decide +kernel
theorem dX6_holds_66 : decode cX6_holds 66 = .ok (.getfield 10, 3) := by decide +kernel
theorem dX6_holds_69 : decode cX6_holds 69 = .ok (.iload_n 1, 1) := by decide +kernel
theorem dX6_holds_70 : decode cX6_holds 70 = .ok (.iload_n 2, 1) := by decide +kernel
theorem dX6_holds_71 : decode cX6_holds 71 = .ok (.iload_n 3, 1) := by decide +kernel
theorem dX6_holds_72 : decode cX6_holds 72 = .ok (.invokevirtual 206, 3) := by decide +kernel
theorem dX6_holds_75 : decode cX6_holds 75 = .ok (.goto 4, 3) := by decide +kernel
theorem dX6_holds_78 : decode cX6_holds 78 = .ok (.iconst (-1), 1) := by decide +kernel
theorem dX6_holds_79 : decode cX6_holds 79 = .ok (.ireturn, 1) := by decide +kernel
theorem dX6_round_0 : decode cX6_round 0 = .ok (.aload_n 0, 1) := by decide +kernel
theorem dX6_round_1 : decode cX6_round 1 = .ok (.getfield 10, 3) := by decide +kernel
theorem dX6_round_4 : decode cX6_round 4 = .ok (.iload_n 1, 1) := by decide +kernel
theorem dX6_round_5 : decode cX6_round 5 = .ok (.invokevirtual 79, 3) := by decide +kernel
theorem dX6_round_8 : decode cX6_round 8 = .ok (.ifCond .eq 14, 3) := by decide +kernel
theorem dX6_round_11 : decode cX6_round 11 = .ok (.aload_n 0, 1) := by decide +kernel
theorem dX6_round_12 : decode cX6_round 12 = .ok (.getfield 10, 3) := by decide +kernel
theorem dX6_round_15 : decode cX6_round 15 = .ok (.iload_n 2, 1) := by decide +kernel
theorem dX6_round_16 : decode cX6_round 16 = .ok (.invokevirtual 112, 3) := by decide +kernel
theorem dX6_round_19 : decode cX6_round 19 = .ok (.ifCond .ne 5, 3) := by decide +kernel
theorem dX6_round_22 : decode cX6_round 22 = .ok (.iconst 0, 1) := by decide +kernel
theorem dX6_round_23 : decode cX6_round 23 = .ok (.ireturn, 1) := by decide +kernel
theorem dX6_round_24 : decode cX6_round 24 = .ok (.aload_n 0, 1) := by decide +kernel
theorem dX6_round_25 : decode cX6_round 25 = .ok (.getfield 10, 3) := by decide +kernel
theorem dX6_round_28 : decode cX6_round 28 = .ok (.invokevirtual 105, 3) := by decide +kernel
theorem dX6_round_31 : decode cX6_round 31 = .ok (.aload_n 0, 1) := by decide +kernel
theorem dX6_round_32 : decode cX6_round 32 = .ok (.getfield 40, 3) := by decide +kernel
theorem dX6_round_35 : decode cX6_round 35 = .ok (.aload_n 0, 1) := by decide +kernel
theorem dX6_round_36 : decode cX6_round 36 = .ok (.getfield 10, 3) := by decide +kernel
theorem dX6_round_39 : decode cX6_round 39 = .ok (.iload_n 1, 1) := by decide +kernel
