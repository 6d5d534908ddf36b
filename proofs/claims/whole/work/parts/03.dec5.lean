/-! decode rows, as printed -/
theorem dX7_nextOf_93 : decode cX7_nextOf 93 = .ok (.goto 4, 3) := by decide +kernel
theorem dX7_nextOf_96 : decode cX7_nextOf 96 = .ok (.iconst 0, 1) := by decide +kernel
theorem dX7_nextOf_97 : decode cX7_nextOf 97 = .ok (.istore 8, 2) := by decide +kernel
theorem dX7_nextOf_99 : decode cX7_nextOf 99 = .ok (.iload 8, 2) := by decide +kernel
theorem dX7_nextOf_101 : decode cX7_nextOf 101 = .ok (.ifCond .eq 8, 3) := by decide +kernel
theorem dX7_nextOf_104 : decode cX7_nextOf 104 = .ok (.iload 6, 2) := by decide +kernel
theorem dX7_nextOf_106 : decode cX7_nextOf 106 = .ok (.goto 5, 3) := by decide +kernel
theorem dX7_nextOf_109 : decode cX7_nextOf 109 = .ok (.iload 5, 2) := by decide +kernel
theorem dX7_nextOf_111 : decode cX7_nextOf 111 = .ok (.istore 5, 2) := by decide +kernel
theorem dX7_nextOf_113 : decode cX7_nextOf 113 = .ok (.iinc 6 (-1), 3) := by decide +kernel
theorem dX7_nextOf_116 : decode cX7_nextOf 116 = .ok (.goto (-105), 3) := by decide +kernel
theorem dX7_nextOf_119 : decode cX7_nextOf 119 = .ok (.iload 5, 2) := by decide +kernel
theorem dX7_nextOf_121 : decode cX7_nextOf 121 = .ok (.ireturn, 1) := by decide +kernel
theorem dX7_isOn_0 : decode cX7_isOn 0 = .ok (.iconst 0, 1) := by decide +kernel
theorem dX7_isOn_1 : decode cX7_isOn 1 = .ok (.istore 4, 2) := by decide +kernel
theorem dX7_isOn_3 : decode cX7_isOn 3 = .ok (.iload_n 1, 1) := by decide +kernel
theorem dX7_isOn_4 : decode cX7_isOn 4 = .ok (.istore 5, 2) := by decide +kernel
theorem dX7_isOn_6 : decode cX7_isOn 6 = .ok (.aload_n 0, 1) := by decide +kernel
theorem dX7_isOn_7 : decode cX7_isOn 7 = .ok (.iconst 0, 1) := by decide +kernel
theorem dX7_isOn_8 : decode cX7_isOn 8 = .ok (.iload 5, 2) := by decide +kernel
theorem dX7_isOn_10 : decode cX7_isOn 10 = .ok (.iload_n 2, 1) := by decide +kernel
theorem dX7_isOn_11 : decode cX7_isOn 11 = .ok (.iconst (-1), 1) := by decide +kernel
theorem dX7_isOn_12 : decode cX7_isOn 12 = .ok (.invokevirtual 72, 3) := by decide +kernel
theorem dX7_isOn_15 : decode cX7_isOn 15 = .ok (.istore 6, 2) := by decide +kernel
theorem dX7_isOn_17 : decode cX7_isOn 17 = .ok (.iload 6, 2) := by decide +kernel
theorem dX7_isOn_19 : decode cX7_isOn 19 = .ok (.ifCond .lt 45, 3) := by decide +kernel
theorem dX7_isOn_22 : decode cX7_isOn 22 = .ok (.iload 4, 2) := by decide +kernel
theorem dX7_isOn_24 : decode cX7_isOn 24 = .ok (.ifCond .ne 15, 3) := by decide +kernel
theorem dX7_isOn_27 : decode cX7_isOn 27 = .ok (.aload_n 0, 1) := by decide +kernel
theorem dX7_isOn_28 : decode cX7_isOn 28 = .ok (.iload 5, 2) := by decide +kernel
theorem dX7_isOn_30 : decode cX7_isOn 30 = .ok (.iload 6, 2) := by decide +kernel
theorem dX7_isOn_32 : decode cX7_isOn 32 = .ok (.invokevirtual 56, 3) := by decide +kernel
theorem dX7_isOn_35 : decode cX7_isOn 35 = .ok (.iload_n 3, 1) := by decide +kernel
theorem dX7_isOn_36 : decode cX7_isOn 36 = .ok (.if_icmp .ne 7, 3) := by decide +kernel
theorem dX7_isOn_39 : decode cX7_isOn 39 = .ok (.iconst 1, 1) := by decide +kernel
theorem dX7_isOn_40 : decode cX7_isOn 40 = .ok (.goto 4, 3) := by decide +kernel
theorem dX7_isOn_43 : decode cX7_isOn 43 = .ok (.iconst 0, 1) := by decide +kernel
theorem dX7_isOn_44 : decode cX7_isOn 44 = .ok (.istore 4, 2) := by decide +kernel
theorem dX7_isOn_46 : decode cX7_isOn 46 = .ok (.iload 6, 2) := by decide +kernel
theorem dX7_isOn_48 : decode cX7_isOn 48 = .ok (.istore 5, 2) := by decide +kernel
theorem dX7_isOn_50 : decode cX7_isOn 50 = .ok (.aload_n 0, 1) := by decide +kernel
theorem dX7_isOn_51 : decode cX7_isOn 51 = .ok (.iconst 0, 1) := by decide +kernel
theorem dX7_isOn_52 : decode cX7_isOn 52 = .ok (.iload 5, 2) := by decide +kernel
theorem dX7_isOn_54 : decode cX7_isOn 54 = .ok (.iload_n 2, 1) := by decide +kernel
theorem dX7_isOn_55 : decode cX7_isOn 55 = .ok (.iconst (-1), 1) := by decide +kernel
theorem dX7_isOn_56 : decode cX7_isOn 56 = .ok (.invokevirtual 72, 3) := by decide +kernel
theorem dX7_isOn_59 : decode cX7_isOn 59 = .ok (.istore 6, 2) := by decide +kernel
theorem dX7_isOn_61 : decode cX7_isOn 61 = .ok (.goto (-44), 3) := by decide +kernel
theorem dX7_isOn_64 : decode cX7_isOn 64 = .ok (.iload 4, 2) := by decide +kernel
theorem dX7_isOn_66 : decode cX7_isOn 66 = .ok (.ireturn, 1) := by decide +kernel
theorem dX7_of_0 : decode cX7_of 0 = .ok (.aload_n 0, 1) := by decide +kernel
theorem dX7_of_1 : decode cX7_of 1 = .ok (.iconst 0, 1) := by decide +kernel
theorem dX7_of_2 : decode cX7_of 2 = .ok (.putfield 32, 3) := by decide +kernel
theorem dX7_of_5 : decode cX7_of 5 = .ok (.aload_n 0, 1) := by decide +kernel
theorem dX7_of_6 : decode cX7_of 6 = .ok (.iload_n 1, 1) := by decide +kernel
theorem dX7_of_7 : decode cX7_of 7 = .ok (.invokevirtual 60, 3) := by decide +kernel
theorem dX7_of_10 : decode cX7_of 10 = .ok (.ifCond .ne 5, 3) := by decide +kernel
theorem dX7_of_13 : decode cX7_of 13 = .ok (.iconst (-1), 1) := by decide +kernel
theorem dX7_of_14 : decode cX7_of 14 = .ok (.ireturn, 1) := by decide +kernel
theorem dX7_of_15 : decode cX7_of 15 = .ok (.iload_n 2, 1) := by decide +kernel
theorem dX7_of_16 : decode cX7_of 16 = .ok (.tableswitch 96 0 5 #[40, 47, 54, 61, 68, 90], 40) := by decide +kernel
theorem dX7_of_56 : decode cX7_of 56 = .ok (.aload_n 0, 1) := by decide +kernel
theorem dX7_of_57 : decode cX7_of 57 = .ok (.getfield 13, 3) := by decide +kernel
theorem dX7_of_60 : decode cX7_of 60 = .ok (.iload_n 1, 1) := by decide +kernel
theorem dX7_of_61 : decode cX7_of 61 = .ok (.iaload, 1) := by decide +kernel
theorem dX7_of_62 : decode cX7_of 62 = .ok (.ireturn, 1) := by decide +kernel
theorem dX7_of_63 : decode cX7_of 63 = .ok (.aload_n 0, 1) := by decide +kernel
theorem dX7_of_64 : decode cX7_of 64 = .ok (.getfield 17, 3) := by decide +kernel
theorem dX7_of_67 : decode cX7_of 67 = .ok (.iload_n 1, 1) := by decide +kernel
theorem dX7_of_68 : decode cX7_of 68 = .ok (.iaload, 1) := by decide +kernel
theorem dX7_of_69 : decode cX7_of 69 = .ok (.ireturn, 1) := by decide +kernel
theorem dX7_of_70 : decode cX7_of 70 = .ok (.aload_n 0, 1) := by decide +kernel
theorem dX7_of_71 : decode cX7_of 71 = .ok (.getfield 20, 3) := by decide +kernel
theorem dX7_of_74 : decode cX7_of 74 = .ok (.iload_n 1, 1) := by decide +kernel
theorem dX7_of_75 : decode cX7_of 75 = .ok (.iaload, 1) := by decide +kernel
theorem dX7_of_76 : decode cX7_of 76 = .ok (.ireturn, 1) := by decide +kernel
theorem dX7_of_77 : decode cX7_of 77 = .ok (.aload_n 0, 1) := by decide +kernel
theorem dX7_of_78 : decode cX7_of 78 = .ok (.getfield 23, 3) := by decide +kernel
theorem dX7_of_81 : decode cX7_of 81 = .ok (.iload_n 1, 1) := by decide +kernel
theorem dX7_of_82 : decode cX7_of 82 = .ok (.iaload, 1) := by decide +kernel
theorem dX7_of_83 : decode cX7_of 83 = .ok (.ireturn, 1) := by decide +kernel
theorem dX7_of_84 : decode cX7_of 84 = .ok (.aload_n 0, 1) := by decide +kernel
theorem dX7_of_85 : decode cX7_of 85 = .ok (.iload_n 1, 1) := by decide +kernel
theorem dX7_of_86 : decode cX7_of 86 = .ok (.aload_n 0, 1) := by decide +kernel
theorem dX7_of_87 : decode cX7_of 87 = .ok (.getfield 46, 3) := by decide +kernel
theorem dX7_of_90 : decode cX7_of 90 = .ok (.aload_n 0, 1) := by decide +kernel
theorem dX7_of_91 : decode cX7_of 91 = .ok (.getfield 49, 3) := by decide +kernel
theorem dX7_of_94 : decode cX7_of 94 = .ok (.invokevirtual 76, 3) := by decide +kernel
theorem dX7_of_97 : decode cX7_of 97 = .ok (.ifCond .eq 7, 3) := by decide +kernel
theorem dX7_of_100 : decode cX7_of 100 = .ok (.iconst 1, 1) := by decide +kernel
theorem dX7_of_101 : decode cX7_of 101 = .ok (.goto 4, 3) := by decide +kernel
theorem dX7_of_104 : decode cX7_of 104 = .ok (.iconst 0, 1) := by decide +kernel
theorem dX7_of_105 : decode cX7_of 105 = .ok (.ireturn, 1) := by decide +kernel
theorem dX7_of_106 : decode cX7_of 106 = .ok (.aload_n 0, 1) := by decide +kernel
theorem dX7_of_107 : decode cX7_of 107 = .ok (.iload_n 1, 1) := by decide +kernel
theorem dX7_of_108 : decode cX7_of 108 = .ok (.invokevirtual 79, 3) := by decide +kernel
theorem dX7_of_111 : decode cX7_of 111 = .ok (.ireturn, 1) := by decide +kernel
theorem dX7_of_112 : decode cX7_of 112 = .ok (.iconst (-1), 1) := by decide +kernel
theorem dX7_of_113 : decode cX7_of 113 = .ok (.ireturn, 1) := by decide +kernel
theorem dX7_betweenOf_0 : decode cX7_betweenOf 0 = .ok (.aload_n 0, 1) := by decide +kernel
theorem dX7_betweenOf_1 : decode cX7_betweenOf 1 = .ok (.invokevirtual 83, 3) := by decide +kernel
theorem dX7_betweenOf_4 : decode cX7_betweenOf 4 = .ok (.iconst 0, 1) := by decide +kernel
theorem dX7_betweenOf_5 : decode cX7_betweenOf 5 = .ok (.istore_n 2, 1) := by decide +kernel
theorem dX7_betweenOf_6 : decode cX7_betweenOf 6 = .ok (.iconst 0, 1) := by decide +kernel
theorem dX7_betweenOf_7 : decode cX7_betweenOf 7 = .ok (.istore_n 3, 1) := by decide +kernel
theorem dX7_betweenOf_8 : decode cX7_betweenOf 8 = .ok (.iload_n 3, 1) := by decide +kernel
theorem dX7_betweenOf_9 : decode cX7_betweenOf 9 = .ok (.aload_n 0, 1) := by decide +kernel
theorem dX7_betweenOf_10 : decode cX7_betweenOf 10 = .ok (.getfield 7, 3) := by decide +kernel
theorem dX7_betweenOf_13 : decode cX7_betweenOf 13 = .ok (.if_icmp .ge 46, 3) := by decide +kernel
theorem dX7_betweenOf_16 : decode cX7_betweenOf 16 = .ok (.iconst 0, 1) := by decide +kernel
theorem dX7_betweenOf_17 : decode cX7_betweenOf 17 = .ok (.istore 4, 2) := by decide +kernel
theorem dX7_betweenOf_19 : decode cX7_betweenOf 19 = .ok (.iload 4, 2) := by decide +kernel
theorem dX7_betweenOf_21 : decode cX7_betweenOf 21 = .ok (.aload_n 0, 1) := by decide +kernel
theorem dX7_betweenOf_22 : decode cX7_betweenOf 22 = .ok (.getfield 7, 3) := by decide +kernel
theorem dX7_betweenOf_25 : decode cX7_betweenOf 25 = .ok (.if_icmp .ge 28, 3) := by decide +kernel
theorem dX7_betweenOf_28 : decode cX7_betweenOf 28 = .ok (.iload_n 2, 1) := by decide +kernel
theorem dX7_betweenOf_29 : decode cX7_betweenOf 29 = .ok (.aload_n 0, 1) := by decide +kernel
theorem dX7_betweenOf_30 : decode cX7_betweenOf 30 = .ok (.iload_n 3, 1) := by decide +kernel
theorem dX7_betweenOf_31 : decode cX7_betweenOf 31 = .ok (.iload 4, 2) := by decide +kernel
theorem dX7_betweenOf_33 : decode cX7_betweenOf 33 = .ok (.iload_n 1, 1) := by decide +kernel
theorem dX7_betweenOf_34 : decode cX7_betweenOf 34 = .ok (.invokevirtual 86, 3) := by decide +kernel
theorem dX7_betweenOf_37 : decode cX7_betweenOf 37 = .ok (.ifCond .eq 7, 3) := by decide +kernel
theorem dX7_betweenOf_40 : decode cX7_betweenOf 40 = .ok (.iconst 1, 1) := by decide +kernel
theorem dX7_betweenOf_41 : decode cX7_betweenOf 41 = .ok (.goto 4, 3) := by decide +kernel
theorem dX7_betweenOf_44 : decode cX7_betweenOf 44 = .ok (.iconst 0, 1) := by decide +kernel
theorem dX7_betweenOf_45 : decode cX7_betweenOf 45 = .ok (.iadd, 1) := by decide +kernel
theorem dX7_betweenOf_46 : decode cX7_betweenOf 46 = .ok (.istore_n 2, 1) := by decide +kernel
theorem dX7_betweenOf_47 : decode cX7_betweenOf 47 = .ok (.iinc 4 1, 3) := by decide +kernel
theorem dX7_betweenOf_50 : decode cX7_betweenOf 50 = .ok (.goto (-31), 3) := by decide +kernel
theorem dX7_betweenOf_53 : decode cX7_betweenOf 53 = .ok (.iinc 3 1, 3) := by decide +kernel
theorem dX7_betweenOf_56 : decode cX7_betweenOf 56 = .ok (.goto (-48), 3) := by decide +kernel
theorem dX7_betweenOf_59 : decode cX7_betweenOf 59 = .ok (.iload_n 2, 1) := by decide +kernel
theorem dX7_betweenOf_60 : decode cX7_betweenOf 60 = .ok (.ireturn, 1) := by decide +kernel
theorem dX7_between_0 : decode cX7_between 0 = .ok (.aload_n 0, 1) := by decide +kernel
theorem dX7_between_1 : decode cX7_between 1 = .ok (.iconst 0, 1) := by decide +kernel
theorem dX7_between_2 : decode cX7_between 2 = .ok (.putfield 32, 3) := by decide +kernel
theorem dX7_between_5 : decode cX7_between 5 = .ok (.aload_n 0, 1) := by decide +kernel
theorem dX7_between_6 : decode cX7_between 6 = .ok (.iload_n 1, 1) := by decide +kernel
theorem dX7_between_7 : decode cX7_between 7 = .ok (.iload_n 2, 1) := by decide +kernel
theorem dX7_between_8 : decode cX7_between 8 = .ok (.invokevirtual 52, 3) := by decide +kernel
theorem dX7_between_11 : decode cX7_between 11 = .ok (.ifCond .eq 12, 3) := by decide +kernel
theorem dX7_between_14 : decode cX7_between 14 = .ok (.aload_n 0, 1) := by decide +kernel
theorem dX7_between_15 : decode cX7_between 15 = .ok (.iload_n 1, 1) := by decide +kernel
theorem dX7_between_16 : decode cX7_between 16 = .ok (.iload_n 2, 1) := by decide +kernel
theorem dX7_between_17 : decode cX7_between 17 = .ok (.invokevirtual 56, 3) := by decide +kernel
theorem dX7_between_20 : decode cX7_between 20 = .ok (.goto 4, 3) := by decide +kernel
theorem dX7_between_23 : decode cX7_between 23 = .ok (.iconst (-1), 1) := by decide +kernel
theorem dX7_between_24 : decode cX7_between 24 = .ok (.ireturn, 1) := by decide +kernel
theorem dX7_orNone_0 : decode cX7_orNone 0 = .ok (.iload_n 0, 1) := by decide +kernel
theorem dX7_orNone_1 : decode cX7_orNone 1 = .ok (.ldc 67, 2) := by decide +kernel
theorem dX7_orNone_3 : decode cX7_orNone 3 = .ok (.if_icmp .ge 7, 3) := by decide +kernel
theorem dX7_orNone_6 : decode cX7_orNone 6 = .ok (.iload_n 0, 1) := by decide +kernel
theorem dX7_orNone_7 : decode cX7_orNone 7 = .ok (.goto 4, 3) := by decide +kernel
theorem dX7_orNone_10 : decode cX7_orNone 10 = .ok (.iconst (-1), 1) := by decide +kernel
theorem dX7_orNone_11 : decode cX7_orNone 11 = .ok (.ireturn, 1) := by decide +kernel
theorem dX7_far_0 : decode cX7_far 0 = .ok (.aload_n 0, 1) := by decide +kernel
theorem dX7_far_1 : decode cX7_far 1 = .ok (.iconst 0, 1) := by decide +kernel
theorem dX7_far_2 : decode cX7_far 2 = .ok (.putfield 32, 3) := by decide +kernel
theorem dX7_far_5 : decode cX7_far 5 = .ok (.aload_n 0, 1) := by decide +kernel
theorem dX7_far_6 : decode cX7_far 6 = .ok (.invokevirtual 83, 3) := by decide +kernel
theorem dX7_far_9 : decode cX7_far 9 = .ok (.aload_n 0, 1) := by decide +kernel
theorem dX7_far_10 : decode cX7_far 10 = .ok (.iload_n 1, 1) := by decide +kernel
theorem dX7_far_11 : decode cX7_far 11 = .ok (.invokevirtual 38, 3) := by decide +kernel
theorem dX7_far_14 : decode cX7_far 14 = .ok (.ifCond .eq 23, 3) := by decide +kernel
theorem dX7_far_17 : decode cX7_far 17 = .ok (.aload_n 0, 1) := by decide +kernel
theorem dX7_far_18 : decode cX7_far 18 = .ok (.iload_n 2, 1) := by decide +kernel
theorem dX7_far_19 : decode cX7_far 19 = .ok (.invokevirtual 38, 3) := by decide +kernel
theorem dX7_far_22 : decode cX7_far 22 = .ok (.ifCond .eq 15, 3) := by decide +kernel
theorem dX7_far_25 : decode cX7_far 25 = .ok (.aload_n 0, 1) := by decide +kernel
theorem dX7_far_26 : decode cX7_far 26 = .ok (.iload_n 1, 1) := by decide +kernel
theorem dX7_far_27 : decode cX7_far 27 = .ok (.iload_n 2, 1) := by decide +kernel
theorem dX7_far_28 : decode cX7_far 28 = .ok (.invokevirtual 89, 3) := by decide +kernel
theorem dX7_far_31 : decode cX7_far 31 = .ok (.invokestatic 92, 3) := by decide +kernel
theorem dX7_far_34 : decode cX7_far 34 = .ok (.goto 4, 3) := by decide +kernel
theorem dX7_far_37 : decode cX7_far 37 = .ok (.iconst (-1), 1) := by decide +kernel
theorem dX7_far_38 : decode cX7_far 38 = .ok (.ireturn, 1) := by decide +kernel
theorem dX7_next_0 : decode cX7_next 0 = .ok (.aload_n 0, 1) := by decide +kernel
theorem dX7_next_1 : decode cX7_next 1 = .ok (.iconst 0, 1) := by decide +kernel
theorem dX7_next_2 : decode cX7_next 2 = .ok (.putfield 32, 3) := by decide +kernel
theorem dX7_next_5 : decode cX7_next 5 = .ok (.aload_n 0, 1) := by decide +kernel
theorem dX7_next_6 : decode cX7_next 6 = .ok (.invokevirtual 83, 3) := by decide +kernel
theorem dX7_next_9 : decode cX7_next 9 = .ok (.aload_n 0, 1) := by decide +kernel
theorem dX7_next_10 : decode cX7_next 10 = .ok (.iload_n 1, 1) := by decide +kernel
theorem dX7_next_11 : decode cX7_next 11 = .ok (.invokevirtual 38, 3) := by decide +kernel
theorem dX7_next_14 : decode cX7_next 14 = .ok (.ifCond .eq 22, 3) := by decide +kernel
theorem dX7_next_17 : decode cX7_next 17 = .ok (.aload_n 0, 1) := by decide +kernel
theorem dX7_next_18 : decode cX7_next 18 = .ok (.iload_n 2, 1) := by decide +kernel
theorem dX7_next_19 : decode cX7_next 19 = .ok (.invokevirtual 38, 3) := by decide +kernel
theorem dX7_next_22 : decode cX7_next 22 = .ok (.ifCond .eq 14, 3) := by decide +kernel
theorem dX7_next_25 : decode cX7_next 25 = .ok (.aload_n 0, 1) := by decide +kernel
theorem dX7_next_26 : decode cX7_next 26 = .ok (.iconst 0, 1) := by decide +kernel
theorem dX7_next_27 : decode cX7_next 27 = .ok (.iload_n 1, 1) := by decide +kernel
theorem dX7_next_28 : decode cX7_next 28 = .ok (.iload_n 2, 1) := by decide +kernel
theorem dX7_next_29 : decode cX7_next 29 = .ok (.iconst (-1), 1) := by decide +kernel
theorem dX7_next_30 : decode cX7_next 30 = .ok (.invokevirtual 72, 3) := by decide +kernel
theorem dX7_next_33 : decode cX7_next 33 = .ok (.goto 4, 3) := by decide +kernel
theorem dX7_next_36 : decode cX7_next 36 = .ok (.iconst (-1), 1) := by decide +kernel
theorem dX7_next_37 : decode cX7_next 37 = .ok (.ireturn, 1) := by decide +kernel
theorem dX7_way_0 : decode cX7_way 0 = .ok (.aload_n 0, 1) := by decide +kernel
theorem dX7_way_1 : decode cX7_way 1 = .ok (.iconst 0, 1) := by decide +kernel
theorem dX7_way_2 : decode cX7_way 2 = .ok (.putfield 32, 3) := by decide +kernel
theorem dX7_way_5 : decode cX7_way 5 = .ok (.aload_n 0, 1) := by decide +kernel
theorem dX7_way_6 : decode cX7_way 6 = .ok (.invokevirtual 83, 3) := by decide +kernel
theorem dX7_way_9 : decode cX7_way 9 = .ok (.aload_n 0, 1) := by decide +kernel
theorem dX7_way_10 : decode cX7_way 10 = .ok (.iload_n 1, 1) := by decide +kernel
theorem dX7_way_11 : decode cX7_way 11 = .ok (.invokevirtual 38, 3) := by decide +kernel
theorem dX7_way_14 : decode cX7_way 14 = .ok (.ifCond .eq 30, 3) := by decide +kernel
theorem dX7_way_17 : decode cX7_way 17 = .ok (.aload_n 0, 1) := by decide +kernel
theorem dX7_way_18 : decode cX7_way 18 = .ok (.iload_n 2, 1) := by decide +kernel
theorem dX7_way_19 : decode cX7_way 19 = .ok (.invokevirtual 38, 3) := by decide +kernel
theorem dX7_way_22 : decode cX7_way 22 = .ok (.ifCond .eq 22, 3) := by decide +kernel
theorem dX7_way_25 : decode cX7_way 25 = .ok (.iload_n 3, 1) := by decide +kernel
theorem dX7_way_26 : decode cX7_way 26 = .ok (.ifCond .lt 18, 3) := by decide +kernel
theorem dX7_way_29 : decode cX7_way 29 = .ok (.aload_n 0, 1) := by decide +kernel
theorem dX7_way_30 : decode cX7_way 30 = .ok (.iload_n 1, 1) := by decide +kernel
theorem dX7_way_31 : decode cX7_way 31 = .ok (.iload_n 2, 1) := by decide +kernel
theorem dX7_way_32 : decode cX7_way 32 = .ok (.invokevirtual 89, 3) := by decide +kernel
theorem dX7_way_35 : decode cX7_way 35 = .ok (.ldc 67, 2) := by decide +kernel
theorem dX7_way_37 : decode cX7_way 37 = .ok (.if_icmp .ge 7, 3) := by decide +kernel
theorem dX7_way_40 : decode cX7_way 40 = .ok (.iconst 1, 1) := by decide +kernel
theorem dX7_way_41 : decode cX7_way 41 = .ok (.goto 4, 3) := by decide +kernel
theorem dX7_way_44 : decode cX7_way 44 = .ok (.iconst 0, 1) := by decide +kernel
theorem dX7_way_45 : decode cX7_way 45 = .ok (.istore 4, 2) := by decide +kernel
theorem dX7_way_47 : decode cX7_way 47 = .ok (.iload_n 1, 1) := by decide +kernel
theorem dX7_way_48 : decode cX7_way 48 = .ok (.istore 5, 2) := by decide +kernel
theorem dX7_way_50 : decode cX7_way 50 = .ok (.iconst 0, 1) := by decide +kernel
theorem dX7_way_51 : decode cX7_way 51 = .ok (.istore 6, 2) := by decide +kernel
theorem dX7_way_53 : decode cX7_way 53 = .ok (.iload 6, 2) := by decide +kernel
theorem dX7_way_55 : decode cX7_way 55 = .ok (.iload_n 3, 1) := by decide +kernel
theorem dX7_way_56 : decode cX7_way 56 = .ok (.if_icmp .ge 37, 3) := by decide +kernel
theorem dX7_way_59 : decode cX7_way 59 = .ok (.iload 4, 2) := by decide +kernel
theorem dX7_way_61 : decode cX7_way 61 = .ok (.ifCond .eq 32, 3) := by decide +kernel
theorem dX7_way_64 : decode cX7_way 64 = .ok (.aload_n 0, 1) := by decide +kernel
theorem dX7_way_65 : decode cX7_way 65 = .ok (.iconst 0, 1) := by decide +kernel
theorem dX7_way_66 : decode cX7_way 66 = .ok (.iload 5, 2) := by decide +kernel
theorem dX7_way_68 : decode cX7_way 68 = .ok (.iload_n 2, 1) := by decide +kernel
theorem dX7_way_69 : decode cX7_way 69 = .ok (.iconst (-1), 1) := by decide +kernel
theorem dX7_way_70 : decode cX7_way 70 = .ok (.invokevirtual 72, 3) := by decide +kernel
theorem dX7_way_73 : decode cX7_way 73 = .ok (.istore 5, 2) := by decide +kernel
theorem dX7_way_75 : decode cX7_way 75 = .ok (.iload 5, 2) := by decide +kernel
theorem dX7_way_77 : decode cX7_way 77 = .ok (.ifCond .lt 7, 3) := by decide +kernel
theorem dX7_way_80 : decode cX7_way 80 = .ok (.iconst 1, 1) := by decide +kernel
theorem dX7_way_81 : decode cX7_way 81 = .ok (.goto 4, 3) := by decide +kernel
theorem dX7_way_84 : decode cX7_way 84 = .ok (.iconst 0, 1) := by decide +kernel
theorem dX7_way_85 : decode cX7_way 85 = .ok (.istore 4, 2) := by decide +kernel
theorem dX7_way_87 : decode cX7_way 87 = .ok (.iinc 6 1, 3) := by decide +kernel
theorem dX7_way_90 : decode cX7_way 90 = .ok (.goto (-37), 3) := by decide +kernel
theorem dX7_way_93 : decode cX7_way 93 = .ok (.aload_n 0, 1) := by decide +kernel
theorem dX7_way_94 : decode cX7_way 94 = .ok (.iload 4, 2) := by decide +kernel
theorem dX7_way_96 : decode cX7_way 96 = .ok (.ifCond .eq 7, 3) := by decide +kernel
theorem dX7_way_99 : decode cX7_way 99 = .ok (.iconst 0, 1) := by decide +kernel
theorem dX7_way_100 : decode cX7_way 100 = .ok (.goto 4, 3) := by decide +kernel
theorem dX7_way_103 : decode cX7_way 103 = .ok (.iconst 1, 1) := by decide +kernel
theorem dX7_way_104 : decode cX7_way 104 = .ok (.putfield 32, 3) := by decide +kernel
theorem dX7_way_107 : decode cX7_way 107 = .ok (.iload 4, 2) := by decide +kernel
theorem dX7_way_109 : decode cX7_way 109 = .ok (.ifCond .eq 8, 3) := by decide +kernel
theorem dX7_way_112 : decode cX7_way 112 = .ok (.iload 5, 2) := by decide +kernel
theorem dX7_way_114 : decode cX7_way 114 = .ok (.goto 4, 3) := by decide +kernel
theorem dX7_way_117 : decode cX7_way 117 = .ok (.iconst 0, 1) := by decide +kernel
theorem dX7_way_118 : decode cX7_way 118 = .ok (.ireturn, 1) := by decide +kernel
theorem dX7_sum_0 : decode cX7_sum 0 = .ok (.iload_n 0, 1) := by decide +kernel
theorem dX7_sum_1 : decode cX7_sum 1 = .ok (.iload_n 1, 1) := by decide +kernel
theorem dX7_sum_2 : decode cX7_sum 2 = .ok (.iadd, 1) := by decide +kernel
theorem dX7_sum_3 : decode cX7_sum 3 = .ok (.ldc 67, 2) := by decide +kernel
theorem dX7_sum_5 : decode cX7_sum 5 = .ok (.if_icmp .ge 9, 3) := by decide +kernel
theorem dX7_sum_8 : decode cX7_sum 8 = .ok (.iload_n 0, 1) := by decide +kernel
theorem dX7_sum_9 : decode cX7_sum 9 = .ok (.iload_n 1, 1) := by decide +kernel
theorem dX7_sum_10 : decode cX7_sum 10 = .ok (.iadd, 1) := by decide +kernel
theorem dX7_sum_11 : decode cX7_sum 11 = .ok (.goto 5, 3) := by decide +kernel
theorem dX7_sum_14 : decode cX7_sum 14 = .ok (.ldc 67, 2) := by decide +kernel
theorem dX7_sum_16 : decode cX7_sum 16 = .ok (.ireturn, 1) := by decide +kernel
theorem dX7_isSo_0 : decode cX7_isSo 0 = .ok (.iload 5, 2) := by decide +kernel
theorem dX7_isSo_2 : decode cX7_isSo 2 = .ok (.tableswitch 117 0 2 #[26, 58, 80], 26) := by decide +kernel
theorem dX7_isSo_28 : decode cX7_isSo 28 = .ok (.aload_n 0, 1) := by decide +kernel
theorem dX7_isSo_29 : decode cX7_isSo 29 = .ok (.iload 4, 2) := by decide +kernel
theorem dX7_isSo_31 : decode cX7_isSo 31 = .ok (.iload_n 2, 1) := by decide +kernel
theorem dX7_isSo_32 : decode cX7_isSo 32 = .ok (.invokevirtual 89, 3) := by decide +kernel
theorem dX7_isSo_35 : decode cX7_isSo 35 = .ok (.aload_n 0, 1) := by decide +kernel
theorem dX7_isSo_36 : decode cX7_isSo 36 = .ok (.iload 4, 2) := by decide +kernel
theorem dX7_isSo_38 : decode cX7_isSo 38 = .ok (.iload_n 1, 1) := by decide +kernel
theorem dX7_isSo_39 : decode cX7_isSo 39 = .ok (.invokevirtual 89, 3) := by decide +kernel
theorem dX7_isSo_42 : decode cX7_isSo 42 = .ok (.aload_n 0, 1) := by decide +kernel
theorem dX7_isSo_43 : decode cX7_isSo 43 = .ok (.iload_n 1, 1) := by decide +kernel
theorem dX7_isSo_44 : decode cX7_isSo 44 = .ok (.iload_n 2, 1) := by decide +kernel
theorem dX7_isSo_45 : decode cX7_isSo 45 = .ok (.invokevirtual 89, 3) := by decide +kernel
theorem dX7_isSo_48 : decode cX7_isSo 48 = .ok (.invokestatic 95, 3) := by decide +kernel
theorem dX7_isSo_51 : decode cX7_isSo 51 = .ok (.if_icmp .ge 7, 3) := by decide +kernel
theorem dX7_isSo_54 : decode cX7_isSo 54 = .ok (.iconst 1, 1) := by decide +kernel
theorem dX7_isSo_55 : decode cX7_isSo 55 = .ok (.goto 4, 3) := by decide +kernel
theorem dX7_isSo_58 : decode cX7_isSo 58 = .ok (.iconst 0, 1) := by decide +kernel
theorem dX7_isSo_59 : decode cX7_isSo 59 = .ok (.ireturn, 1) := by decide +kernel
theorem dX7_isSo_60 : decode cX7_isSo 60 = .ok (.aload_n 0, 1) := by decide +kernel
theorem dX7_isSo_61 : decode cX7_isSo 61 = .ok (.iload 4, 2) := by decide +kernel
theorem dX7_isSo_63 : decode cX7_isSo 63 = .ok (.iload_n 2, 1) := by decide +kernel
theorem dX7_isSo_64 : decode cX7_isSo 64 = .ok (.invokevirtual 89, 3) := by decide +kernel
theorem dX7_isSo_67 : decode cX7_isSo 67 = .ok (.aload_n 0, 1) := by decide +kernel
theorem dX7_isSo_68 : decode cX7_isSo 68 = .ok (.iload_n 1, 1) := by decide +kernel
theorem dX7_isSo_69 : decode cX7_isSo 69 = .ok (.iload_n 2, 1) := by decide +kernel
theorem dX7_isSo_70 : decode cX7_isSo 70 = .ok (.invokevirtual 89, 3) := by decide +kernel
theorem dX7_isSo_73 : decode cX7_isSo 73 = .ok (.if_icmp .ge 7, 3) := by decide +kernel
theorem dX7_isSo_76 : decode cX7_isSo 76 = .ok (.iconst 1, 1) := by decide +kernel
theorem dX7_isSo_77 : decode cX7_isSo 77 = .ok (.goto 4, 3) := by decide +kernel
theorem dX7_isSo_80 : decode cX7_isSo 80 = .ok (.iconst 0, 1) := by decide +kernel
theorem dX7_isSo_81 : decode cX7_isSo 81 = .ok (.ireturn, 1) := by decide +kernel
theorem dX7_isSo_82 : decode cX7_isSo 82 = .ok (.iload_n 3, 1) := by decide +kernel
theorem dX7_isSo_83 : decode cX7_isSo 83 = .ok (.iload_n 2, 1) := by decide +kernel
theorem dX7_isSo_84 : decode cX7_isSo 84 = .ok (.if_icmp .eq 33, 3) := by decide +kernel
theorem dX7_isSo_87 : decode cX7_isSo 87 = .ok (.aload_n 0, 1) := by decide +kernel
theorem dX7_isSo_88 : decode cX7_isSo 88 = .ok (.iload 4, 2) := by decide +kernel
theorem dX7_isSo_90 : decode cX7_isSo 90 = .ok (.iload_n 2, 1) := by decide +kernel
theorem dX7_isSo_91 : decode cX7_isSo 91 = .ok (.invokevirtual 89, 3) := by decide +kernel
theorem dX7_isSo_94 : decode cX7_isSo 94 = .ok (.aload_n 0, 1) := by decide +kernel
theorem dX7_isSo_95 : decode cX7_isSo 95 = .ok (.iload 4, 2) := by decide +kernel
theorem dX7_isSo_97 : decode cX7_isSo 97 = .ok (.iload_n 3, 1) := by decide +kernel
theorem dX7_isSo_98 : decode cX7_isSo 98 = .ok (.invokevirtual 89, 3) := by decide +kernel
theorem dX7_isSo_101 : decode cX7_isSo 101 = .ok (.aload_n 0, 1) := by decide +kernel
theorem dX7_isSo_102 : decode cX7_isSo 102 = .ok (.iload_n 3, 1) := by decide +kernel
theorem dX7_isSo_103 : decode cX7_isSo 103 = .ok (.iload_n 2, 1) := by decide +kernel
theorem dX7_isSo_104 : decode cX7_isSo 104 = .ok (.invokevirtual 89, 3) := by decide +kernel
theorem dX7_isSo_107 : decode cX7_isSo 107 = .ok (.invokestatic 95, 3) := by decide +kernel
theorem dX7_isSo_110 : decode cX7_isSo 110 = .ok (.if_icmp .ge 7, 3) := by decide +kernel
theorem dX7_isSo_113 : decode cX7_isSo 113 = .ok (.iconst 1, 1) := by decide +kernel
theorem dX7_isSo_114 : decode cX7_isSo 114 = .ok (.goto 4, 3) := by decide +kernel
theorem dX7_isSo_117 : decode cX7_isSo 117 = .ok (.iconst 0, 1) := by decide +kernel
theorem dX7_isSo_118 : decode cX7_isSo 118 = .ok (.ireturn, 1) := by decide +kernel
theorem dX7_isSo_119 : decode cX7_isSo 119 = .ok (.aload_n 0, 1) := by decide +kernel
theorem dX7_isSo_120 : decode cX7_isSo 120 = .ok (.getfield 23, 3) := by decide +kernel
theorem dX7_isSo_123 : decode cX7_isSo 123 = .ok (.aload_n 0, 1) := by decide +kernel
theorem dX7_isSo_124 : decode cX7_isSo 124 = .ok (.iload_n 1, 1) := by decide +kernel
theorem dX7_isSo_125 : decode cX7_isSo 125 = .ok (.iload 4, 2) := by decide +kernel
theorem dX7_isSo_127 : decode cX7_isSo 127 = .ok (.invokevirtual 56, 3) := by decide +kernel
theorem dX7_isSo_130 : decode cX7_isSo 130 = .ok (.iaload, 1) := by decide +kernel
theorem dX7_isSo_131 : decode cX7_isSo 131 = .ok (.aload_n 0, 1) := by decide +kernel
theorem dX7_isSo_132 : decode cX7_isSo 132 = .ok (.getfield 23, 3) := by decide +kernel
theorem dX7_isSo_135 : decode cX7_isSo 135 = .ok (.aload_n 0, 1) := by decide +kernel
theorem dX7_isSo_136 : decode cX7_isSo 136 = .ok (.iload_n 1, 1) := by decide +kernel
theorem dX7_isSo_137 : decode cX7_isSo 137 = .ok (.iload_n 3, 1) := by decide +kernel
theorem dX7_isSo_138 : decode cX7_isSo 138 = .ok (.invokevirtual 56, 3) := by decide +kernel
theorem dX7_isSo_141 : decode cX7_isSo 141 = .ok (.iaload, 1) := by decide +kernel
theorem dX7_isSo_142 : decode cX7_isSo 142 = .ok (.iand, 1) := by decide +kernel
theorem dX7_isSo_143 : decode cX7_isSo 143 = .ok (.ifCond .ne 7, 3) := by decide +kernel
theorem dX7_isSo_146 : decode cX7_isSo 146 = .ok (.iconst 1, 1) := by decide +kernel
theorem dX7_isSo_147 : decode cX7_isSo 147 = .ok (.goto 4, 3) := by decide +kernel
theorem dX7_isSo_150 : decode cX7_isSo 150 = .ok (.iconst 0, 1) := by decide +kernel
theorem dX7_isSo_151 : decode cX7_isSo 151 = .ok (.ireturn, 1) := by decide +kernel
theorem dX7_onesOf_0 : decode cX7_onesOf 0 = .ok (.aload_n 0, 1) := by decide +kernel
theorem dX7_onesOf_1 : decode cX7_onesOf 1 = .ok (.iconst 0, 1) := by decide +kernel
theorem dX7_onesOf_2 : decode cX7_onesOf 2 = .ok (.iload_n 1, 1) := by decide +kernel
theorem dX7_onesOf_3 : decode cX7_onesOf 3 = .ok (.iload_n 2, 1) := by decide +kernel
theorem dX7_onesOf_4 : decode cX7_onesOf 4 = .ok (.iconst (-1), 1) := by decide +kernel
theorem dX7_onesOf_5 : decode cX7_onesOf 5 = .ok (.invokevirtual 72, 3) := by decide +kernel
theorem dX7_onesOf_8 : decode cX7_onesOf 8 = .ok (.istore 4, 2) := by decide +kernel
theorem dX7_onesOf_10 : decode cX7_onesOf 10 = .ok (.iconst 0, 1) := by decide +kernel
theorem dX7_onesOf_11 : decode cX7_onesOf 11 = .ok (.istore 5, 2) := by decide +kernel
theorem dX7_onesOf_13 : decode cX7_onesOf 13 = .ok (.iconst 0, 1) := by decide +kernel
theorem dX7_onesOf_14 : decode cX7_onesOf 14 = .ok (.istore 6, 2) := by decide +kernel
theorem dX7_onesOf_16 : decode cX7_onesOf 16 = .ok (.iload 6, 2) := by decide +kernel
theorem dX7_onesOf_18 : decode cX7_onesOf 18 = .ok (.aload_n 0, 1) := by decide +kernel
theorem dX7_onesOf_19 : decode cX7_onesOf 19 = .ok (.getfield 7, 3) := by decide +kernel
theorem dX7_onesOf_22 : decode cX7_onesOf 22 = .ok (.if_icmp .ge 58, 3) := by decide +kernel
theorem dX7_onesOf_25 : decode cX7_onesOf 25 = .ok (.iload 4, 2) := by decide +kernel
theorem dX7_onesOf_27 : decode cX7_onesOf 27 = .ok (.ifCond .lt 53, 3) := by decide +kernel
theorem dX7_onesOf_30 : decode cX7_onesOf 30 = .ok (.iload 5, 2) := by decide +kernel
theorem dX7_onesOf_32 : decode cX7_onesOf 32 = .ok (.iload 6, 2) := by decide +kernel
theorem dX7_onesOf_34 : decode cX7_onesOf 34 = .ok (.iload 4, 2) := by decide +kernel
theorem dX7_onesOf_36 : decode cX7_onesOf 36 = .ok (.if_icmp .eq 34, 3) := by decide +kernel
theorem dX7_onesOf_39 : decode cX7_onesOf 39 = .ok (.aload_n 0, 1) := by decide +kernel
theorem dX7_onesOf_40 : decode cX7_onesOf 40 = .ok (.iload_n 1, 1) := by decide +kernel
theorem dX7_onesOf_41 : decode cX7_onesOf 41 = .ok (.iload 6, 2) := by decide +kernel
theorem dX7_onesOf_43 : decode cX7_onesOf 43 = .ok (.invokevirtual 56, 3) := by decide +kernel
theorem dX7_onesOf_46 : decode cX7_onesOf 46 = .ok (.ifCond .lt 24, 3) := by decide +kernel
theorem dX7_onesOf_49 : decode cX7_onesOf 49 = .ok (.aload_n 0, 1) := by decide +kernel
theorem dX7_onesOf_50 : decode cX7_onesOf 50 = .ok (.iload_n 1, 1) := by decide +kernel
theorem dX7_onesOf_51 : decode cX7_onesOf 51 = .ok (.iload_n 2, 1) := by decide +kernel
theorem dX7_onesOf_52 : decode cX7_onesOf 52 = .ok (.iload 4, 2) := by decide +kernel
theorem dX7_onesOf_54 : decode cX7_onesOf 54 = .ok (.iload 6, 2) := by decide +kernel
theorem dX7_onesOf_56 : decode cX7_onesOf 56 = .ok (.iload_n 3, 1) := by decide +kernel
theorem dX7_onesOf_57 : decode cX7_onesOf 57 = .ok (.invokevirtual 98, 3) := by decide +kernel
theorem dX7_onesOf_60 : decode cX7_onesOf 60 = .ok (.ifCond .eq 10, 3) := by decide +kernel
theorem dX7_onesOf_63 : decode cX7_onesOf 63 = .ok (.iconst 1, 1) := by decide +kernel
theorem dX7_onesOf_64 : decode cX7_onesOf 64 = .ok (.iload 6, 2) := by decide +kernel
theorem dX7_onesOf_66 : decode cX7_onesOf 66 = .ok (.ishl, 1) := by decide +kernel
theorem dX7_onesOf_67 : decode cX7_onesOf 67 = .ok (.goto 4, 3) := by decide +kernel
theorem dX7_onesOf_70 : decode cX7_onesOf 70 = .ok (.iconst 0, 1) := by decide +kernel
theorem dX7_onesOf_71 : decode cX7_onesOf 71 = .ok (.ior, 1) := by decide +kernel
theorem dX7_onesOf_72 : decode cX7_onesOf 72 = .ok (.istore 5, 2) := by decide +kernel
theorem dX7_onesOf_74 : decode cX7_onesOf 74 = .ok (.iinc 6 1, 3) := by decide +kernel
theorem dX7_onesOf_77 : decode cX7_onesOf 77 = .ok (.goto (-61), 3) := by decide +kernel
theorem dX7_onesOf_80 : decode cX7_onesOf 80 = .ok (.iload 5, 2) := by decide +kernel
theorem dX7_onesOf_82 : decode cX7_onesOf 82 = .ok (.ireturn, 1) := by decide +kernel
theorem dX7_worth_0 : decode cX7_worth 0 = .ok (.aload_n 0, 1) := by decide +kernel
theorem dX7_worth_1 : decode cX7_worth 1 = .ok (.iload_n 1, 1) := by decide +kernel
theorem dX7_worth_2 : decode cX7_worth 2 = .ok (.iload_n 2, 1) := by decide +kernel
theorem dX7_worth_3 : decode cX7_worth 3 = .ok (.iconst 2, 1) := by decide +kernel
theorem dX7_worth_4 : decode cX7_worth 4 = .ok (.invokevirtual 102, 3) := by decide +kernel
theorem dX7_worth_7 : decode cX7_worth 7 = .ok (.iload_n 3, 1) := by decide +kernel
theorem dX7_worth_8 : decode cX7_worth 8 = .ok (.ishr, 1) := by decide +kernel
theorem dX7_worth_9 : decode cX7_worth 9 = .ok (.iconst 1, 1) := by decide +kernel
theorem dX7_worth_10 : decode cX7_worth 10 = .ok (.iand, 1) := by decide +kernel
theorem dX7_worth_11 : decode cX7_worth 11 = .ok (.istore 4, 2) := by decide +kernel
theorem dX7_worth_13 : decode cX7_worth 13 = .ok (.aload_n 0, 1) := by decide +kernel
theorem dX7_worth_14 : decode cX7_worth 14 = .ok (.iload_n 1, 1) := by decide +kernel
theorem dX7_worth_15 : decode cX7_worth 15 = .ok (.iload_n 2, 1) := by decide +kernel
theorem dX7_worth_16 : decode cX7_worth 16 = .ok (.iconst 3, 1) := by decide +kernel
theorem dX7_worth_17 : decode cX7_worth 17 = .ok (.invokevirtual 102, 3) := by decide +kernel
theorem dX7_worth_20 : decode cX7_worth 20 = .ok (.iload_n 3, 1) := by decide +kernel
theorem dX7_worth_21 : decode cX7_worth 21 = .ok (.ishr, 1) := by decide +kernel
theorem dX7_worth_22 : decode cX7_worth 22 = .ok (.iconst 1, 1) := by decide +kernel
theorem dX7_worth_23 : decode cX7_worth 23 = .ok (.iand, 1) := by decide +kernel
theorem dX7_worth_24 : decode cX7_worth 24 = .ok (.istore 5, 2) := by decide +kernel
theorem dX7_worth_26 : decode cX7_worth 26 = .ok (.ldc 105, 2) := by decide +kernel
theorem dX7_worth_28 : decode cX7_worth 28 = .ok (.iconst 1, 1) := by decide +kernel
theorem dX7_worth_29 : decode cX7_worth 29 = .ok (.iload 4, 2) := by decide +kernel
theorem dX7_worth_31 : decode cX7_worth 31 = .ok (.isub, 1) := by decide +kernel
theorem dX7_worth_32 : decode cX7_worth 32 = .ok (.imul, 1) := by decide +kernel
theorem dX7_worth_33 : decode cX7_worth 33 = .ok (.ldc 106, 2) := by decide +kernel
theorem dX7_worth_35 : decode cX7_worth 35 = .ok (.iconst 1, 1) := by decide +kernel
theorem dX7_worth_36 : decode cX7_worth 36 = .ok (.iload 5, 2) := by decide +kernel
theorem dX7_worth_38 : decode cX7_worth 38 = .ok (.isub, 1) := by decide +kernel
theorem dX7_worth_39 : decode cX7_worth 39 = .ok (.imul, 1) := by decide +kernel
theorem dX7_worth_40 : decode cX7_worth 40 = .ok (.iadd, 1) := by decide +kernel
theorem dX7_worth_41 : decode cX7_worth 41 = .ok (.aload_n 0, 1) := by decide +kernel
theorem dX7_worth_42 : decode cX7_worth 42 = .ok (.getfield 20, 3) := by decide +kernel
theorem dX7_worth_45 : decode cX7_worth 45 = .ok (.aload_n 0, 1) := by decide +kernel
theorem dX7_worth_46 : decode cX7_worth 46 = .ok (.iload_n 1, 1) := by decide +kernel
theorem dX7_worth_47 : decode cX7_worth 47 = .ok (.iload_n 3, 1) := by decide +kernel
theorem dX7_worth_48 : decode cX7_worth 48 = .ok (.invokevirtual 56, 3) := by decide +kernel
theorem dX7_worth_51 : decode cX7_worth 51 = .ok (.iaload, 1) := by decide +kernel
theorem dX7_worth_52 : decode cX7_worth 52 = .ok (.iadd, 1) := by decide +kernel
theorem dX7_worth_53 : decode cX7_worth 53 = .ok (.aload_n 0, 1) := by decide +kernel
theorem dX7_worth_54 : decode cX7_worth 54 = .ok (.iload_n 3, 1) := by decide +kernel
theorem dX7_worth_55 : decode cX7_worth 55 = .ok (.iload_n 2, 1) := by decide +kernel
theorem dX7_worth_56 : decode cX7_worth 56 = .ok (.invokevirtual 89, 3) := by decide +kernel
theorem dX7_worth_59 : decode cX7_worth 59 = .ok (.iadd, 1) := by decide +kernel
theorem dX7_worth_60 : decode cX7_worth 60 = .ok (.ireturn, 1) := by decide +kernel
theorem dX7_alternateOf_0 : decode cX7_alternateOf 0 = .ok (.aload_n 0, 1) := by decide +kernel
theorem dX7_alternateOf_1 : decode cX7_alternateOf 1 = .ok (.iload_n 1, 1) := by decide +kernel
theorem dX7_alternateOf_2 : decode cX7_alternateOf 2 = .ok (.iload_n 2, 1) := by decide +kernel
theorem dX7_alternateOf_3 : decode cX7_alternateOf 3 = .ok (.iconst 0, 1) := by decide +kernel
theorem dX7_alternateOf_4 : decode cX7_alternateOf 4 = .ok (.invokevirtual 102, 3) := by decide +kernel
theorem dX7_alternateOf_7 : decode cX7_alternateOf 7 = .ok (.istore_n 3, 1) := by decide +kernel
theorem dX7_alternateOf_8 : decode cX7_alternateOf 8 = .ok (.iconst (-1), 1) := by decide +kernel
theorem dX7_alternateOf_9 : decode cX7_alternateOf 9 = .ok (.istore 4, 2) := by decide +kernel
theorem dX7_alternateOf_11 : decode cX7_alternateOf 11 = .ok (.iconst 0, 1) := by decide +kernel
theorem dX7_alternateOf_12 : decode cX7_alternateOf 12 = .ok (.istore 5, 2) := by decide +kernel
theorem dX7_alternateOf_14 : decode cX7_alternateOf 14 = .ok (.iload 5, 2) := by decide +kernel
theorem dX7_alternateOf_16 : decode cX7_alternateOf 16 = .ok (.aload_n 0, 1) := by decide +kernel
theorem dX7_alternateOf_17 : decode cX7_alternateOf 17 = .ok (.getfield 7, 3) := by decide +kernel
theorem dX7_alternateOf_20 : decode cX7_alternateOf 20 = .ok (.if_icmp .ge 52, 3) := by decide +kernel
theorem dX7_alternateOf_23 : decode cX7_alternateOf 23 = .ok (.iload_n 3, 1) := by decide +kernel
theorem dX7_alternateOf_24 : decode cX7_alternateOf 24 = .ok (.iload 5, 2) := by decide +kernel
theorem dX7_alternateOf_26 : decode cX7_alternateOf 26 = .ok (.ishr, 1) := by decide +kernel
theorem dX7_alternateOf_27 : decode cX7_alternateOf 27 = .ok (.iconst 1, 1) := by decide +kernel
theorem dX7_alternateOf_28 : decode cX7_alternateOf 28 = .ok (.iand, 1) := by decide +kernel
theorem dX7_alternateOf_29 : decode cX7_alternateOf 29 = .ok (.iconst 1, 1) := by decide +kernel
theorem dX7_alternateOf_30 : decode cX7_alternateOf 30 = .ok (.if_icmp .ne 32, 3) := by decide +kernel
theorem dX7_alternateOf_33 : decode cX7_alternateOf 33 = .ok (.iload 4, 2) := by decide +kernel
theorem dX7_alternateOf_35 : decode cX7_alternateOf 35 = .ok (.ifCond .lt 22, 3) := by decide +kernel
theorem dX7_alternateOf_38 : decode cX7_alternateOf 38 = .ok (.aload_n 0, 1) := by decide +kernel
theorem dX7_alternateOf_39 : decode cX7_alternateOf 39 = .ok (.iload_n 1, 1) := by decide +kernel
theorem dX7_alternateOf_40 : decode cX7_alternateOf 40 = .ok (.iload_n 2, 1) := by decide +kernel
theorem dX7_alternateOf_41 : decode cX7_alternateOf 41 = .ok (.iload 5, 2) := by decide +kernel
theorem dX7_alternateOf_43 : decode cX7_alternateOf 43 = .ok (.invokevirtual 107, 3) := by decide +kernel
theorem dX7_alternateOf_46 : decode cX7_alternateOf 46 = .ok (.aload_n 0, 1) := by decide +kernel
theorem dX7_alternateOf_47 : decode cX7_alternateOf 47 = .ok (.iload_n 1, 1) := by decide +kernel
theorem dX7_alternateOf_48 : decode cX7_alternateOf 48 = .ok (.iload_n 2, 1) := by decide +kernel
theorem dX7_alternateOf_49 : decode cX7_alternateOf 49 = .ok (.iload 4, 2) := by decide +kernel
theorem dX7_alternateOf_51 : decode cX7_alternateOf 51 = .ok (.invokevirtual 107, 3) := by decide +kernel
theorem dX7_alternateOf_54 : decode cX7_alternateOf 54 = .ok (.if_icmp .ge 8, 3) := by decide +kernel
theorem dX7_alternateOf_57 : decode cX7_alternateOf 57 = .ok (.iload 5, 2) := by decide +kernel
theorem dX7_alternateOf_59 : decode cX7_alternateOf 59 = .ok (.goto 5, 3) := by decide +kernel
theorem dX7_alternateOf_62 : decode cX7_alternateOf 62 = .ok (.iload 4, 2) := by decide +kernel
theorem dX7_alternateOf_64 : decode cX7_alternateOf 64 = .ok (.istore 4, 2) := by decide +kernel
theorem dX7_alternateOf_66 : decode cX7_alternateOf 66 = .ok (.iinc 5 1, 3) := by decide +kernel
theorem dX7_alternateOf_69 : decode cX7_alternateOf 69 = .ok (.goto (-55), 3) := by decide +kernel
theorem dX7_alternateOf_72 : decode cX7_alternateOf 72 = .ok (.iload 4, 2) := by decide +kernel
theorem dX7_alternateOf_74 : decode cX7_alternateOf 74 = .ok (.ireturn, 1) := by decide +kernel
theorem dX7_isWithNext_0 : decode cX7_isWithNext 0 = .ok (.aload_n 0, 1) := by decide +kernel
theorem dX7_isWithNext_1 : decode cX7_isWithNext 1 = .ok (.iload_n 1, 1) := by decide +kernel
theorem dX7_isWithNext_2 : decode cX7_isWithNext 2 = .ok (.invokevirtual 38, 3) := by decide +kernel
theorem dX7_isWithNext_5 : decode cX7_isWithNext 5 = .ok (.ifCond .eq 26, 3) := by decide +kernel
theorem dX7_isWithNext_8 : decode cX7_isWithNext 8 = .ok (.aload_n 0, 1) := by decide +kernel
theorem dX7_isWithNext_9 : decode cX7_isWithNext 9 = .ok (.iload_n 2, 1) := by decide +kernel
theorem dX7_isWithNext_10 : decode cX7_isWithNext 10 = .ok (.invokevirtual 38, 3) := by decide +kernel
theorem dX7_isWithNext_13 : decode cX7_isWithNext 13 = .ok (.ifCond .eq 18, 3) := by decide +kernel
theorem dX7_isWithNext_16 : decode cX7_isWithNext 16 = .ok (.aload_n 0, 1) := by decide +kernel
theorem dX7_isWithNext_17 : decode cX7_isWithNext 17 = .ok (.iconst 0, 1) := by decide +kernel
theorem dX7_isWithNext_18 : decode cX7_isWithNext 18 = .ok (.iload_n 1, 1) := by decide +kernel
theorem dX7_isWithNext_19 : decode cX7_isWithNext 19 = .ok (.iload_n 2, 1) := by decide +kernel
theorem dX7_isWithNext_20 : decode cX7_isWithNext 20 = .ok (.iconst (-1), 1) := by decide +kernel
theorem dX7_isWithNext_21 : decode cX7_isWithNext 21 = .ok (.invokevirtual 72, 3) := by decide +kernel
theorem dX7_isWithNext_24 : decode cX7_isWithNext 24 = .ok (.ifCond .lt 7, 3) := by decide +kernel
theorem dX7_isWithNext_27 : decode cX7_isWithNext 27 = .ok (.iconst 1, 1) := by decide +kernel
theorem dX7_isWithNext_28 : decode cX7_isWithNext 28 = .ok (.goto 4, 3) := by decide +kernel
theorem dX7_isWithNext_31 : decode cX7_isWithNext 31 = .ok (.iconst 0, 1) := by decide +kernel
theorem dX7_isWithNext_32 : decode cX7_isWithNext 32 = .ok (.ireturn, 1) := by decide +kernel
theorem dX7_ones_0 : decode cX7_ones 0 = .ok (.aload_n 0, 1) := by decide +kernel
theorem dX7_ones_1 : decode cX7_ones 1 = .ok (.iconst 0, 1) := by decide +kernel
theorem dX7_ones_2 : decode cX7_ones 2 = .ok (.putfield 32, 3) := by decide +kernel
theorem dX7_ones_5 : decode cX7_ones 5 = .ok (.aload_n 0, 1) := by decide +kernel
theorem dX7_ones_6 : decode cX7_ones 6 = .ok (.invokevirtual 83, 3) := by decide +kernel
theorem dX7_ones_9 : decode cX7_ones 9 = .ok (.iload_n 3, 1) := by decide +kernel
theorem dX7_ones_10 : decode cX7_ones 10 = .ok (.iconst 0, 1) := by decide +kernel
theorem dX7_ones_11 : decode cX7_ones 11 = .ok (.iconst 3, 1) := by decide +kernel
theorem dX7_ones_12 : decode cX7_ones 12 = .ok (.invokestatic 42, 3) := by decide +kernel
theorem dX7_ones_15 : decode cX7_ones 15 = .ok (.ifCond .eq 22, 3) := by decide +kernel
theorem dX7_ones_18 : decode cX7_ones 18 = .ok (.aload_n 0, 1) := by decide +kernel
theorem dX7_ones_19 : decode cX7_ones 19 = .ok (.iload_n 1, 1) := by decide +kernel
theorem dX7_ones_20 : decode cX7_ones 20 = .ok (.iload_n 2, 1) := by decide +kernel
theorem dX7_ones_21 : decode cX7_ones 21 = .ok (.invokevirtual 110, 3) := by decide +kernel
theorem dX7_ones_24 : decode cX7_ones 24 = .ok (.ifCond .eq 13, 3) := by decide +kernel
theorem dX7_ones_27 : decode cX7_ones 27 = .ok (.aload_n 0, 1) := by decide +kernel
theorem dX7_ones_28 : decode cX7_ones 28 = .ok (.iload_n 1, 1) := by decide +kernel
theorem dX7_ones_29 : decode cX7_ones 29 = .ok (.iload_n 2, 1) := by decide +kernel
theorem dX7_ones_30 : decode cX7_ones 30 = .ok (.iload_n 3, 1) := by decide +kernel
theorem dX7_ones_31 : decode cX7_ones 31 = .ok (.invokevirtual 102, 3) := by decide +kernel
theorem dX7_ones_34 : decode cX7_ones 34 = .ok (.goto 4, 3) := by decide +kernel
theorem dX7_ones_37 : decode cX7_ones 37 = .ok (.iconst 0, 1) := by decide +kernel
theorem dX7_ones_38 : decode cX7_ones 38 = .ok (.ireturn, 1) := by decide +kernel
theorem dX7_alternate_0 : decode cX7_alternate 0 = .ok (.aload_n 0, 1) := by decide +kernel
theorem dX7_alternate_1 : decode cX7_alternate 1 = .ok (.iconst 0, 1) := by decide +kernel
theorem dX7_alternate_2 : decode cX7_alternate 2 = .ok (.putfield 32, 3) := by decide +kernel
theorem dX7_alternate_5 : decode cX7_alternate 5 = .ok (.aload_n 0, 1) := by decide +kernel
theorem dX7_alternate_6 : decode cX7_alternate 6 = .ok (.invokevirtual 83, 3) := by decide +kernel
theorem dX7_alternate_9 : decode cX7_alternate 9 = .ok (.aload_n 0, 1) := by decide +kernel
theorem dX7_alternate_10 : decode cX7_alternate 10 = .ok (.iload_n 1, 1) := by decide +kernel
theorem dX7_alternate_11 : decode cX7_alternate 11 = .ok (.iload_n 2, 1) := by decide +kernel
theorem dX7_alternate_12 : decode cX7_alternate 12 = .ok (.invokevirtual 110, 3) := by decide +kernel
theorem dX7_alternate_15 : decode cX7_alternate 15 = .ok (.ifCond .eq 12, 3) := by decide +kernel
theorem dX7_alternate_18 : decode cX7_alternate 18 = .ok (.aload_n 0, 1) := by decide +kernel
theorem dX7_alternate_19 : decode cX7_alternate 19 = .ok (.iload_n 1, 1) := by decide +kernel
theorem dX7_alternate_20 : decode cX7_alternate 20 = .ok (.iload_n 2, 1) := by decide +kernel
theorem dX7_alternate_21 : decode cX7_alternate 21 = .ok (.invokevirtual 113, 3) := by decide +kernel
theorem dX7_alternate_24 : decode cX7_alternate 24 = .ok (.goto 4, 3) := by decide +kernel
theorem dX7_alternate_27 : decode cX7_alternate 27 = .ok (.iconst (-1), 1) := by decide +kernel
theorem dX7_alternate_28 : decode cX7_alternate 28 = .ok (.ireturn, 1) := by decide +kernel
theorem dX7_reachedBy_0 : decode cX7_reachedBy 0 = .ok (.aload_n 0, 1) := by decide +kernel
theorem dX7_reachedBy_1 : decode cX7_reachedBy 1 = .ok (.iconst 0, 1) := by decide +kernel
theorem dX7_reachedBy_2 : decode cX7_reachedBy 2 = .ok (.iload_n 1, 1) := by decide +kernel
theorem dX7_reachedBy_3 : decode cX7_reachedBy 3 = .ok (.iload_n 2, 1) := by decide +kernel
theorem dX7_reachedBy_4 : decode cX7_reachedBy 4 = .ok (.iconst (-1), 1) := by decide +kernel
theorem dX7_reachedBy_5 : decode cX7_reachedBy 5 = .ok (.invokevirtual 72, 3) := by decide +kernel
theorem dX7_reachedBy_8 : decode cX7_reachedBy 8 = .ok (.istore 4, 2) := by decide +kernel
theorem dX7_reachedBy_10 : decode cX7_reachedBy 10 = .ok (.iconst 0, 1) := by decide +kernel
theorem dX7_reachedBy_11 : decode cX7_reachedBy 11 = .ok (.istore 5, 2) := by decide +kernel
theorem dX7_reachedBy_13 : decode cX7_reachedBy 13 = .ok (.iconst 0, 1) := by decide +kernel
theorem dX7_reachedBy_14 : decode cX7_reachedBy 14 = .ok (.istore 6, 2) := by decide +kernel
theorem dX7_reachedBy_16 : decode cX7_reachedBy 16 = .ok (.iload 6, 2) := by decide +kernel
theorem dX7_reachedBy_18 : decode cX7_reachedBy 18 = .ok (.aload_n 0, 1) := by decide +kernel
theorem dX7_reachedBy_19 : decode cX7_reachedBy 19 = .ok (.getfield 7, 3) := by decide +kernel
theorem dX7_reachedBy_22 : decode cX7_reachedBy 22 = .ok (.if_icmp .ge 125, 3) := by decide +kernel
theorem dX7_reachedBy_25 : decode cX7_reachedBy 25 = .ok (.aload_n 0, 1) := by decide +kernel
theorem dX7_reachedBy_26 : decode cX7_reachedBy 26 = .ok (.iload_n 3, 1) := by decide +kernel
theorem dX7_reachedBy_27 : decode cX7_reachedBy 27 = .ok (.iload_n 1, 1) := by decide +kernel
theorem dX7_reachedBy_28 : decode cX7_reachedBy 28 = .ok (.invokevirtual 89, 3) := by decide +kernel
theorem dX7_reachedBy_31 : decode cX7_reachedBy 31 = .ok (.aload_n 0, 1) := by decide +kernel
theorem dX7_reachedBy_32 : decode cX7_reachedBy 32 = .ok (.getfield 20, 3) := by decide +kernel
theorem dX7_reachedBy_35 : decode cX7_reachedBy 35 = .ok (.aload_n 0, 1) := by decide +kernel
theorem dX7_reachedBy_36 : decode cX7_reachedBy 36 = .ok (.iload_n 1, 1) := by decide +kernel
theorem dX7_reachedBy_37 : decode cX7_reachedBy 37 = .ok (.iload 4, 2) := by decide +kernel
theorem dX7_reachedBy_39 : decode cX7_reachedBy 39 = .ok (.invokevirtual 56, 3) := by decide +kernel
theorem dX7_reachedBy_42 : decode cX7_reachedBy 42 = .ok (.iaload, 1) := by decide +kernel
theorem dX7_reachedBy_43 : decode cX7_reachedBy 43 = .ok (.invokestatic 95, 3) := by decide +kernel
theorem dX7_reachedBy_46 : decode cX7_reachedBy 46 = .ok (.aload_n 0, 1) := by decide +kernel
theorem dX7_reachedBy_47 : decode cX7_reachedBy 47 = .ok (.iload 4, 2) := by decide +kernel
theorem dX7_reachedBy_49 : decode cX7_reachedBy 49 = .ok (.iload 6, 2) := by decide +kernel
theorem dX7_reachedBy_51 : decode cX7_reachedBy 51 = .ok (.invokevirtual 89, 3) := by decide +kernel
theorem dX7_reachedBy_54 : decode cX7_reachedBy 54 = .ok (.invokestatic 95, 3) := by decide +kernel
theorem dX7_reachedBy_57 : decode cX7_reachedBy 57 = .ok (.istore 7, 2) := by decide +kernel
theorem dX7_reachedBy_59 : decode cX7_reachedBy 59 = .ok (.aload_n 0, 1) := by decide +kernel
theorem dX7_reachedBy_60 : decode cX7_reachedBy 60 = .ok (.iload_n 3, 1) := by decide +kernel
theorem dX7_reachedBy_61 : decode cX7_reachedBy 61 = .ok (.iload 4, 2) := by decide +kernel
theorem dX7_reachedBy_63 : decode cX7_reachedBy 63 = .ok (.invokevirtual 89, 3) := by decide +kernel
theorem dX7_reachedBy_66 : decode cX7_reachedBy 66 = .ok (.aload_n 0, 1) := by decide +kernel
theorem dX7_reachedBy_67 : decode cX7_reachedBy 67 = .ok (.getfield 20, 3) := by decide +kernel
theorem dX7_reachedBy_70 : decode cX7_reachedBy 70 = .ok (.aload_n 0, 1) := by decide +kernel
theorem dX7_reachedBy_71 : decode cX7_reachedBy 71 = .ok (.iload_n 1, 1) := by decide +kernel
theorem dX7_reachedBy_72 : decode cX7_reachedBy 72 = .ok (.iload 4, 2) := by decide +kernel
theorem dX7_reachedBy_74 : decode cX7_reachedBy 74 = .ok (.invokevirtual 56, 3) := by decide +kernel
theorem dX7_reachedBy_77 : decode cX7_reachedBy 77 = .ok (.iaload, 1) := by decide +kernel
theorem dX7_reachedBy_78 : decode cX7_reachedBy 78 = .ok (.invokestatic 95, 3) := by decide +kernel
theorem dX7_reachedBy_81 : decode cX7_reachedBy 81 = .ok (.aload_n 0, 1) := by decide +kernel
theorem dX7_reachedBy_82 : decode cX7_reachedBy 82 = .ok (.iload_n 1, 1) := by decide +kernel
theorem dX7_reachedBy_83 : decode cX7_reachedBy 83 = .ok (.iload 6, 2) := by decide +kernel
theorem dX7_reachedBy_85 : decode cX7_reachedBy 85 = .ok (.invokevirtual 89, 3) := by decide +kernel
theorem dX7_reachedBy_88 : decode cX7_reachedBy 88 = .ok (.invokestatic 95, 3) := by decide +kernel
theorem dX7_reachedBy_91 : decode cX7_reachedBy 91 = .ok (.istore 8, 2) := by decide +kernel
theorem dX7_reachedBy_93 : decode cX7_reachedBy 93 = .ok (.iload 5, 2) := by decide +kernel
theorem dX7_reachedBy_95 : decode cX7_reachedBy 95 = .ok (.iload 6, 2) := by decide +kernel
theorem dX7_reachedBy_97 : decode cX7_reachedBy 97 = .ok (.iload_n 1, 1) := by decide +kernel
theorem dX7_reachedBy_98 : decode cX7_reachedBy 98 = .ok (.if_icmp .eq 39, 3) := by decide +kernel
theorem dX7_reachedBy_101 : decode cX7_reachedBy 101 = .ok (.aload_n 0, 1) := by decide +kernel
theorem dX7_reachedBy_102 : decode cX7_reachedBy 102 = .ok (.iload_n 3, 1) := by decide +kernel
theorem dX7_reachedBy_103 : decode cX7_reachedBy 103 = .ok (.iload 6, 2) := by decide +kernel
theorem dX7_reachedBy_105 : decode cX7_reachedBy 105 = .ok (.invokevirtual 89, 3) := by decide +kernel
theorem dX7_reachedBy_108 : decode cX7_reachedBy 108 = .ok (.iload 7, 2) := by decide +kernel
theorem dX7_reachedBy_110 : decode cX7_reachedBy 110 = .ok (.if_icmp .ge 27, 3) := by decide +kernel
theorem dX7_reachedBy_113 : decode cX7_reachedBy 113 = .ok (.iload_n 3, 1) := by decide +kernel
theorem dX7_reachedBy_114 : decode cX7_reachedBy 114 = .ok (.iload_n 1, 1) := by decide +kernel
theorem dX7_reachedBy_115 : decode cX7_reachedBy 115 = .ok (.if_icmp .eq 15, 3) := by decide +kernel
theorem dX7_reachedBy_118 : decode cX7_reachedBy 118 = .ok (.aload_n 0, 1) := by decide +kernel
theorem dX7_reachedBy_119 : decode cX7_reachedBy 119 = .ok (.iload_n 3, 1) := by decide +kernel
theorem dX7_reachedBy_120 : decode cX7_reachedBy 120 = .ok (.iload 6, 2) := by decide +kernel
theorem dX7_reachedBy_122 : decode cX7_reachedBy 122 = .ok (.invokevirtual 89, 3) := by decide +kernel
theorem dX7_reachedBy_125 : decode cX7_reachedBy 125 = .ok (.iload 8, 2) := by decide +kernel
theorem dX7_reachedBy_127 : decode cX7_reachedBy 127 = .ok (.if_icmp .ge 10, 3) := by decide +kernel
theorem dX7_reachedBy_130 : decode cX7_reachedBy 130 = .ok (.iconst 1, 1) := by decide +kernel
theorem dX7_reachedBy_131 : decode cX7_reachedBy 131 = .ok (.iload 6, 2) := by decide +kernel
theorem dX7_reachedBy_133 : decode cX7_reachedBy 133 = .ok (.ishl, 1) := by decide +kernel
theorem dX7_reachedBy_134 : decode cX7_reachedBy 134 = .ok (.goto 4, 3) := by decide +kernel
theorem dX7_reachedBy_137 : decode cX7_reachedBy 137 = .ok (.iconst 0, 1) := by decide +kernel
theorem dX7_reachedBy_138 : decode cX7_reachedBy 138 = .ok (.ior, 1) := by decide +kernel
theorem dX7_reachedBy_139 : decode cX7_reachedBy 139 = .ok (.istore 5, 2) := by decide +kernel
theorem dX7_reachedBy_141 : decode cX7_reachedBy 141 = .ok (.iinc 6 1, 3) := by decide +kernel
theorem dX7_reachedBy_144 : decode cX7_reachedBy 144 = .ok (.goto (-128), 3) := by decide +kernel
theorem dX7_reachedBy_147 : decode cX7_reachedBy 147 = .ok (.iload 5, 2) := by decide +kernel
theorem dX7_reachedBy_149 : decode cX7_reachedBy 149 = .ok (.ireturn, 1) := by decide +kernel
theorem dX7_reach_0 : decode cX7_reach 0 = .ok (.aload_n 0, 1) := by decide +kernel
theorem dX7_reach_1 : decode cX7_reach 1 = .ok (.iconst 0, 1) := by decide +kernel
theorem dX7_reach_2 : decode cX7_reach 2 = .ok (.iload_n 1, 1) := by decide +kernel
theorem dX7_reach_3 : decode cX7_reach 3 = .ok (.iload_n 2, 1) := by decide +kernel
theorem dX7_reach_4 : decode cX7_reach 4 = .ok (.iconst (-1), 1) := by decide +kernel
theorem dX7_reach_5 : decode cX7_reach 5 = .ok (.invokevirtual 72, 3) := by decide +kernel
theorem dX7_reach_8 : decode cX7_reach 8 = .ok (.istore_n 3, 1) := by decide +kernel
theorem dX7_reach_9 : decode cX7_reach 9 = .ok (.aload_n 0, 1) := by decide +kernel
theorem dX7_reach_10 : decode cX7_reach 10 = .ok (.iload_n 1, 1) := by decide +kernel
theorem dX7_reach_11 : decode cX7_reach 11 = .ok (.iload_n 2, 1) := by decide +kernel
theorem dX7_reach_12 : decode cX7_reach 12 = .ok (.iload_n 1, 1) := by decide +kernel
theorem dX7_reach_13 : decode cX7_reach 13 = .ok (.invokevirtual 116, 3) := by decide +kernel
theorem dX7_reach_16 : decode cX7_reach 16 = .ok (.istore 4, 2) := by decide +kernel
theorem dX7_reach_18 : decode cX7_reach 18 = .ok (.iconst 0, 1) := by decide +kernel
theorem dX7_reach_19 : decode cX7_reach 19 = .ok (.istore 5, 2) := by decide +kernel
theorem dX7_reach_21 : decode cX7_reach 21 = .ok (.iload 5, 2) := by decide +kernel
theorem dX7_reach_23 : decode cX7_reach 23 = .ok (.aload_n 0, 1) := by decide +kernel
theorem dX7_reach_24 : decode cX7_reach 24 = .ok (.getfield 7, 3) := by decide +kernel
theorem dX7_reach_27 : decode cX7_reach 27 = .ok (.if_icmp .ge 42, 3) := by decide +kernel
theorem dX7_reach_30 : decode cX7_reach 30 = .ok (.iload 4, 2) := by decide +kernel
theorem dX7_reach_32 : decode cX7_reach 32 = .ok (.iload 5, 2) := by decide +kernel
theorem dX7_reach_34 : decode cX7_reach 34 = .ok (.iload_n 3, 1) := by decide +kernel
theorem dX7_reach_35 : decode cX7_reach 35 = .ok (.if_icmp .eq 24, 3) := by decide +kernel
theorem dX7_reach_38 : decode cX7_reach 38 = .ok (.aload_n 0, 1) := by decide +kernel
theorem dX7_reach_39 : decode cX7_reach 39 = .ok (.iload_n 1, 1) := by decide +kernel
theorem dX7_reach_40 : decode cX7_reach 40 = .ok (.iload 5, 2) := by decide +kernel
theorem dX7_reach_42 : decode cX7_reach 42 = .ok (.invokevirtual 56, 3) := by decide +kernel
theorem dX7_reach_45 : decode cX7_reach 45 = .ok (.ifCond .lt 14, 3) := by decide +kernel
theorem dX7_reach_48 : decode cX7_reach 48 = .ok (.aload_n 0, 1) := by decide +kernel
theorem dX7_reach_49 : decode cX7_reach 49 = .ok (.iload_n 1, 1) := by decide +kernel
theorem dX7_reach_50 : decode cX7_reach 50 = .ok (.iload_n 2, 1) := by decide +kernel
theorem dX7_reach_51 : decode cX7_reach 51 = .ok (.iload 5, 2) := by decide +kernel
theorem dX7_reach_53 : decode cX7_reach 53 = .ok (.invokevirtual 116, 3) := by decide +kernel
theorem dX7_reach_56 : decode cX7_reach 56 = .ok (.goto 4, 3) := by decide +kernel
theorem dX7_reach_59 : decode cX7_reach 59 = .ok (.iconst 0, 1) := by decide +kernel
theorem dX7_reach_60 : decode cX7_reach 60 = .ok (.ior, 1) := by decide +kernel
theorem dX7_reach_61 : decode cX7_reach 61 = .ok (.istore 4, 2) := by decide +kernel
theorem dX7_reach_63 : decode cX7_reach 63 = .ok (.iinc 5 1, 3) := by decide +kernel
theorem dX7_reach_66 : decode cX7_reach 66 = .ok (.goto (-45), 3) := by decide +kernel
theorem dX7_reach_69 : decode cX7_reach 69 = .ok (.iload 4, 2) := by decide +kernel
theorem dX7_reach_71 : decode cX7_reach 71 = .ok (.ireturn, 1) := by decide +kernel
theorem dX7_coming_0 : decode cX7_coming 0 = .ok (.aload_n 0, 1) := by decide +kernel
theorem dX7_coming_1 : decode cX7_coming 1 = .ok (.iconst 0, 1) := by decide +kernel
theorem dX7_coming_2 : decode cX7_coming 2 = .ok (.iload_n 1, 1) := by decide +kernel
theorem dX7_coming_3 : decode cX7_coming 3 = .ok (.iload_n 2, 1) := by decide +kernel
theorem dX7_coming_4 : decode cX7_coming 4 = .ok (.iconst (-1), 1) := by decide +kernel
theorem dX7_coming_5 : decode cX7_coming 5 = .ok (.invokevirtual 72, 3) := by decide +kernel
theorem dX7_coming_8 : decode cX7_coming 8 = .ok (.istore_n 3, 1) := by decide +kernel
theorem dX7_coming_9 : decode cX7_coming 9 = .ok (.iconst 0, 1) := by decide +kernel
theorem dX7_coming_10 : decode cX7_coming 10 = .ok (.istore 4, 2) := by decide +kernel
theorem dX7_coming_12 : decode cX7_coming 12 = .ok (.iconst 0, 1) := by decide +kernel
theorem dX7_coming_13 : decode cX7_coming 13 = .ok (.istore 5, 2) := by decide +kernel
theorem dX7_coming_15 : decode cX7_coming 15 = .ok (.iload 5, 2) := by decide +kernel
theorem dX7_coming_17 : decode cX7_coming 17 = .ok (.aload_n 0, 1) := by decide +kernel
theorem dX7_coming_18 : decode cX7_coming 18 = .ok (.getfield 7, 3) := by decide +kernel
theorem dX7_coming_21 : decode cX7_coming 21 = .ok (.if_icmp .ge 72, 3) := by decide +kernel
theorem dX7_coming_24 : decode cX7_coming 24 = .ok (.aload_n 0, 1) := by decide +kernel
theorem dX7_coming_25 : decode cX7_coming 25 = .ok (.iload 5, 2) := by decide +kernel
theorem dX7_coming_27 : decode cX7_coming 27 = .ok (.iload_n 1, 1) := by decide +kernel
theorem dX7_coming_28 : decode cX7_coming 28 = .ok (.invokevirtual 89, 3) := by decide +kernel
theorem dX7_coming_31 : decode cX7_coming 31 = .ok (.aload_n 0, 1) := by decide +kernel
theorem dX7_coming_32 : decode cX7_coming 32 = .ok (.getfield 20, 3) := by decide +kernel
theorem dX7_coming_35 : decode cX7_coming 35 = .ok (.aload_n 0, 1) := by decide +kernel
theorem dX7_coming_36 : decode cX7_coming 36 = .ok (.iload_n 1, 1) := by decide +kernel
theorem dX7_coming_37 : decode cX7_coming 37 = .ok (.iload_n 3, 1) := by decide +kernel
theorem dX7_coming_38 : decode cX7_coming 38 = .ok (.invokevirtual 56, 3) := by decide +kernel
theorem dX7_coming_41 : decode cX7_coming 41 = .ok (.iaload, 1) := by decide +kernel
theorem dX7_coming_42 : decode cX7_coming 42 = .ok (.invokestatic 95, 3) := by decide +kernel
theorem dX7_coming_45 : decode cX7_coming 45 = .ok (.aload_n 0, 1) := by decide +kernel
theorem dX7_coming_46 : decode cX7_coming 46 = .ok (.iload_n 3, 1) := by decide +kernel
theorem dX7_coming_47 : decode cX7_coming 47 = .ok (.iload_n 2, 1) := by decide +kernel
theorem dX7_coming_48 : decode cX7_coming 48 = .ok (.invokevirtual 89, 3) := by decide +kernel
theorem dX7_coming_51 : decode cX7_coming 51 = .ok (.invokestatic 95, 3) := by decide +kernel
theorem dX7_coming_54 : decode cX7_coming 54 = .ok (.istore 6, 2) := by decide +kernel
theorem dX7_coming_56 : decode cX7_coming 56 = .ok (.iload 4, 2) := by decide +kernel
theorem dX7_coming_58 : decode cX7_coming 58 = .ok (.iload 5, 2) := by decide +kernel
theorem dX7_coming_60 : decode cX7_coming 60 = .ok (.iload_n 1, 1) := by decide +kernel
theorem dX7_coming_61 : decode cX7_coming 61 = .ok (.if_icmp .eq 22, 3) := by decide +kernel
theorem dX7_coming_64 : decode cX7_coming 64 = .ok (.aload_n 0, 1) := by decide +kernel
theorem dX7_coming_65 : decode cX7_coming 65 = .ok (.iload 5, 2) := by decide +kernel
theorem dX7_coming_67 : decode cX7_coming 67 = .ok (.iload_n 2, 1) := by decide +kernel
theorem dX7_coming_68 : decode cX7_coming 68 = .ok (.invokevirtual 89, 3) := by decide +kernel
theorem dX7_coming_71 : decode cX7_coming 71 = .ok (.iload 6, 2) := by decide +kernel
theorem dX7_coming_73 : decode cX7_coming 73 = .ok (.if_icmp .ge 10, 3) := by decide +kernel
theorem dX7_coming_76 : decode cX7_coming 76 = .ok (.iconst 1, 1) := by decide +kernel
theorem dX7_coming_77 : decode cX7_coming 77 = .ok (.iload 5, 2) := by decide +kernel
theorem dX7_coming_79 : decode cX7_coming 79 = .ok (.ishl, 1) := by decide +kernel
theorem dX7_coming_80 : decode cX7_coming 80 = .ok (.goto 4, 3) := by decide +kernel
theorem dX7_coming_83 : decode cX7_coming 83 = .ok (.iconst 0, 1) := by decide +kernel
theorem dX7_coming_84 : decode cX7_coming 84 = .ok (.ior, 1) := by decide +kernel
theorem dX7_coming_85 : decode cX7_coming 85 = .ok (.istore 4, 2) := by decide +kernel
theorem dX7_coming_87 : decode cX7_coming 87 = .ok (.iinc 5 1, 3) := by decide +kernel
theorem dX7_coming_90 : decode cX7_coming 90 = .ok (.goto (-75), 3) := by decide +kernel
theorem dX7_coming_93 : decode cX7_coming 93 = .ok (.iload 4, 2) := by decide +kernel
theorem dX7_coming_95 : decode cX7_coming 95 = .ok (.ireturn, 1) := by decide +kernel
theorem dX7_space_0 : decode cX7_space 0 = .ok (.aload_n 0, 1) := by decide +kernel
theorem dX7_space_1 : decode cX7_space 1 = .ok (.iconst 0, 1) := by decide +kernel
theorem dX7_space_2 : decode cX7_space 2 = .ok (.putfield 32, 3) := by decide +kernel
theorem dX7_space_5 : decode cX7_space 5 = .ok (.aload_n 0, 1) := by decide +kernel
theorem dX7_space_6 : decode cX7_space 6 = .ok (.invokevirtual 83, 3) := by decide +kernel
theorem dX7_space_9 : decode cX7_space 9 = .ok (.iload_n 3, 1) := by decide +kernel
theorem dX7_space_10 : decode cX7_space 10 = .ok (.iconst 0, 1) := by decide +kernel
theorem dX7_space_11 : decode cX7_space 11 = .ok (.iconst 2, 1) := by decide +kernel
theorem dX7_space_12 : decode cX7_space 12 = .ok (.invokestatic 42, 3) := by decide +kernel
theorem dX7_space_15 : decode cX7_space 15 = .ok (.ifCond .eq 12, 3) := by decide +kernel
theorem dX7_space_18 : decode cX7_space 18 = .ok (.aload_n 0, 1) := by decide +kernel
theorem dX7_space_19 : decode cX7_space 19 = .ok (.iload_n 1, 1) := by decide +kernel
theorem dX7_space_20 : decode cX7_space 20 = .ok (.iload_n 2, 1) := by decide +kernel
theorem dX7_space_21 : decode cX7_space 21 = .ok (.invokevirtual 110, 3) := by decide +kernel
theorem dX7_space_24 : decode cX7_space 24 = .ok (.ifCond .ne 5, 3) := by decide +kernel
theorem dX7_space_27 : decode cX7_space 27 = .ok (.iconst 0, 1) := by decide +kernel
theorem dX7_space_28 : decode cX7_space 28 = .ok (.ireturn, 1) := by decide +kernel
theorem dX7_space_29 : decode cX7_space 29 = .ok (.iload_n 3, 1) := by decide +kernel
theorem dX7_space_30 : decode cX7_space 30 = .ok (.ifCond .ne 13, 3) := by decide +kernel
theorem dX7_space_33 : decode cX7_space 33 = .ok (.aload_n 0, 1) := by decide +kernel
theorem dX7_space_34 : decode cX7_space 34 = .ok (.iload_n 1, 1) := by decide +kernel
theorem dX7_space_35 : decode cX7_space 35 = .ok (.iload_n 2, 1) := by decide +kernel
theorem dX7_space_36 : decode cX7_space 36 = .ok (.iload_n 1, 1) := by decide +kernel
theorem dX7_space_37 : decode cX7_space 37 = .ok (.invokevirtual 116, 3) := by decide +kernel
theorem dX7_space_40 : decode cX7_space 40 = .ok (.goto 23, 3) := by decide +kernel
theorem dX7_space_43 : decode cX7_space 43 = .ok (.iload_n 3, 1) := by decide +kernel
theorem dX7_space_44 : decode cX7_space 44 = .ok (.iconst 1, 1) := by decide +kernel
theorem dX7_space_45 : decode cX7_space 45 = .ok (.if_icmp .ne 12, 3) := by decide +kernel
theorem dX7_space_48 : decode cX7_space 48 = .ok (.aload_n 0, 1) := by decide +kernel
theorem dX7_space_49 : decode cX7_space 49 = .ok (.iload_n 1, 1) := by decide +kernel
theorem dX7_space_50 : decode cX7_space 50 = .ok (.iload_n 2, 1) := by decide +kernel
theorem dX7_space_51 : decode cX7_space 51 = .ok (.invokevirtual 119, 3) := by decide +kernel
theorem dX7_space_54 : decode cX7_space 54 = .ok (.goto 9, 3) := by decide +kernel
theorem dX7_space_57 : decode cX7_space 57 = .ok (.aload_n 0, 1) := by decide +kernel
theorem dX7_space_58 : decode cX7_space 58 = .ok (.iload_n 1, 1) := by decide +kernel
theorem dX7_space_59 : decode cX7_space 59 = .ok (.iload_n 2, 1) := by decide +kernel
theorem dX7_space_60 : decode cX7_space 60 = .ok (.invokevirtual 122, 3) := by decide +kernel
theorem dX7_space_63 : decode cX7_space 63 = .ok (.ireturn, 1) := by decide +kernel
theorem dX7_meeting_0 : decode cX7_meeting 0 = .ok (.aload_n 0, 1) := by decide +kernel
theorem dX7_meeting_1 : decode cX7_meeting 1 = .ok (.iload_n 1, 1) := by decide +kernel
theorem dX7_meeting_2 : decode cX7_meeting 2 = .ok (.iload_n 2, 1) := by decide +kernel
theorem dX7_meeting_3 : decode cX7_meeting 3 = .ok (.invokevirtual 119, 3) := by decide +kernel
theorem dX7_meeting_6 : decode cX7_meeting 6 = .ok (.aload_n 0, 1) := by decide +kernel
theorem dX7_meeting_7 : decode cX7_meeting 7 = .ok (.iload_n 1, 1) := by decide +kernel
theorem dX7_meeting_8 : decode cX7_meeting 8 = .ok (.iload_n 2, 1) := by decide +kernel
theorem dX7_meeting_9 : decode cX7_meeting 9 = .ok (.invokevirtual 122, 3) := by decide +kernel
theorem dX7_meeting_12 : decode cX7_meeting 12 = .ok (.iand, 1) := by decide +kernel
theorem dX7_meeting_13 : decode cX7_meeting 13 = .ok (.istore_n 3, 1) := by decide +kernel
theorem dX7_meeting_14 : decode cX7_meeting 14 = .ok (.iconst (-1), 1) := by decide +kernel
theorem dX7_meeting_15 : decode cX7_meeting 15 = .ok (.istore 4, 2) := by decide +kernel
theorem dX7_meeting_17 : decode cX7_meeting 17 = .ok (.iconst 0, 1) := by decide +kernel
theorem dX7_meeting_18 : decode cX7_meeting 18 = .ok (.istore 5, 2) := by decide +kernel
theorem dX7_meeting_20 : decode cX7_meeting 20 = .ok (.iload 5, 2) := by decide +kernel
theorem dX7_meeting_22 : decode cX7_meeting 22 = .ok (.aload_n 0, 1) := by decide +kernel
theorem dX7_meeting_23 : decode cX7_meeting 23 = .ok (.getfield 7, 3) := by decide +kernel
theorem dX7_meeting_26 : decode cX7_meeting 26 = .ok (.if_icmp .ge 50, 3) := by decide +kernel
theorem dX7_meeting_29 : decode cX7_meeting 29 = .ok (.iload_n 3, 1) := by decide +kernel
theorem dX7_meeting_30 : decode cX7_meeting 30 = .ok (.iload 5, 2) := by decide +kernel
theorem dX7_meeting_32 : decode cX7_meeting 32 = .ok (.ishr, 1) := by decide +kernel
theorem dX7_meeting_33 : decode cX7_meeting 33 = .ok (.iconst 1, 1) := by decide +kernel
theorem dX7_meeting_34 : decode cX7_meeting 34 = .ok (.iand, 1) := by decide +kernel
theorem dX7_meeting_35 : decode cX7_meeting 35 = .ok (.iconst 1, 1) := by decide +kernel
theorem dX7_meeting_36 : decode cX7_meeting 36 = .ok (.if_icmp .ne 30, 3) := by decide +kernel
theorem dX7_meeting_39 : decode cX7_meeting 39 = .ok (.iload 4, 2) := by decide +kernel
theorem dX7_meeting_41 : decode cX7_meeting 41 = .ok (.ifCond .lt 20, 3) := by decide +kernel
theorem dX7_meeting_44 : decode cX7_meeting 44 = .ok (.aload_n 0, 1) := by decide +kernel
theorem dX7_meeting_45 : decode cX7_meeting 45 = .ok (.iload_n 1, 1) := by decide +kernel
theorem dX7_meeting_46 : decode cX7_meeting 46 = .ok (.iload 5, 2) := by decide +kernel
theorem dX7_meeting_48 : decode cX7_meeting 48 = .ok (.invokevirtual 89, 3) := by decide +kernel
theorem dX7_meeting_51 : decode cX7_meeting 51 = .ok (.aload_n 0, 1) := by decide +kernel
theorem dX7_meeting_52 : decode cX7_meeting 52 = .ok (.iload_n 1, 1) := by decide +kernel
theorem dX7_meeting_53 : decode cX7_meeting 53 = .ok (.iload 4, 2) := by decide +kernel
theorem dX7_meeting_55 : decode cX7_meeting 55 = .ok (.invokevirtual 89, 3) := by decide +kernel
theorem dX7_meeting_58 : decode cX7_meeting 58 = .ok (.if_icmp .ge 8, 3) := by decide +kernel
theorem dX7_meeting_61 : decode cX7_meeting 61 = .ok (.iload 5, 2) := by decide +kernel
theorem dX7_meeting_63 : decode cX7_meeting 63 = .ok (.goto 5, 3) := by decide +kernel
theorem dX7_meeting_66 : decode cX7_meeting 66 = .ok (.iload 4, 2) := by decide +kernel
theorem dX7_meeting_68 : decode cX7_meeting 68 = .ok (.istore 4, 2) := by decide +kernel
theorem dX7_meeting_70 : decode cX7_meeting 70 = .ok (.iinc 5 1, 3) := by decide +kernel
theorem dX7_meeting_73 : decode cX7_meeting 73 = .ok (.goto (-53), 3) := by decide +kernel
theorem dX7_meeting_76 : decode cX7_meeting 76 = .ok (.iload 4, 2) := by decide +kernel
theorem dX7_meeting_78 : decode cX7_meeting 78 = .ok (.ireturn, 1) := by decide +kernel
theorem dX7_bridge_0 : decode cX7_bridge 0 = .ok (.aload_n 0, 1) := by decide +kernel
theorem dX7_bridge_1 : decode cX7_bridge 1 = .ok (.iload_n 1, 1) := by decide +kernel
theorem dX7_bridge_2 : decode cX7_bridge 2 = .ok (.iload_n 2, 1) := by decide +kernel
theorem dX7_bridge_3 : decode cX7_bridge 3 = .ok (.invokevirtual 119, 3) := by decide +kernel
theorem dX7_bridge_6 : decode cX7_bridge 6 = .ok (.istore_n 3, 1) := by decide +kernel
theorem dX7_bridge_7 : decode cX7_bridge 7 = .ok (.aload_n 0, 1) := by decide +kernel
theorem dX7_bridge_8 : decode cX7_bridge 8 = .ok (.iload_n 1, 1) := by decide +kernel
theorem dX7_bridge_9 : decode cX7_bridge 9 = .ok (.iload_n 2, 1) := by decide +kernel
theorem dX7_bridge_10 : decode cX7_bridge 10 = .ok (.invokevirtual 122, 3) := by decide +kernel
theorem dX7_bridge_13 : decode cX7_bridge 13 = .ok (.istore 4, 2) := by decide +kernel
theorem dX7_bridge_15 : decode cX7_bridge 15 = .ok (.aload_n 0, 1) := by decide +kernel
theorem dX7_bridge_16 : decode cX7_bridge 16 = .ok (.iload_n 1, 1) := by decide +kernel
theorem dX7_bridge_17 : decode cX7_bridge 17 = .ok (.aload_n 0, 1) := by decide +kernel
theorem dX7_bridge_18 : decode cX7_bridge 18 = .ok (.iconst 0, 1) := by decide +kernel
theorem dX7_bridge_19 : decode cX7_bridge 19 = .ok (.iload_n 1, 1) := by decide +kernel
theorem dX7_bridge_20 : decode cX7_bridge 20 = .ok (.iload_n 2, 1) := by decide +kernel
theorem dX7_bridge_21 : decode cX7_bridge 21 = .ok (.iconst (-1), 1) := by decide +kernel
theorem dX7_bridge_22 : decode cX7_bridge 22 = .ok (.invokevirtual 72, 3) := by decide +kernel
theorem dX7_bridge_25 : decode cX7_bridge 25 = .ok (.invokevirtual 56, 3) := by decide +kernel
theorem dX7_bridge_28 : decode cX7_bridge 28 = .ok (.istore 5, 2) := by decide +kernel
theorem dX7_bridge_30 : decode cX7_bridge 30 = .ok (.iconst (-1), 1) := by decide +kernel
theorem dX7_bridge_31 : decode cX7_bridge 31 = .ok (.istore 6, 2) := by decide +kernel
theorem dX7_bridge_33 : decode cX7_bridge 33 = .ok (.ldc 67, 2) := by decide +kernel
theorem dX7_bridge_35 : decode cX7_bridge 35 = .ok (.istore 7, 2) := by decide +kernel
theorem dX7_bridge_37 : decode cX7_bridge 37 = .ok (.iconst 0, 1) := by decide +kernel
theorem dX7_bridge_38 : decode cX7_bridge 38 = .ok (.istore 8, 2) := by decide +kernel
theorem dX7_bridge_40 : decode cX7_bridge 40 = .ok (.iload 8, 2) := by decide +kernel
theorem dX7_bridge_42 : decode cX7_bridge 42 = .ok (.aload_n 0, 1) := by decide +kernel
theorem dX7_bridge_43 : decode cX7_bridge 43 = .ok (.getfield 7, 3) := by decide +kernel
theorem dX7_bridge_46 : decode cX7_bridge 46 = .ok (.if_icmp .ge 144, 3) := by decide +kernel
theorem dX7_bridge_49 : decode cX7_bridge 49 = .ok (.iconst 0, 1) := by decide +kernel
theorem dX7_bridge_50 : decode cX7_bridge 50 = .ok (.istore 9, 2) := by decide +kernel
theorem dX7_bridge_52 : decode cX7_bridge 52 = .ok (.iload 9, 2) := by decide +kernel
theorem dX7_bridge_54 : decode cX7_bridge 54 = .ok (.aload_n 0, 1) := by decide +kernel
theorem dX7_bridge_55 : decode cX7_bridge 55 = .ok (.getfield 7, 3) := by decide +kernel
theorem dX7_bridge_58 : decode cX7_bridge 58 = .ok (.if_icmp .ge 126, 3) := by decide +kernel
theorem dX7_bridge_61 : decode cX7_bridge 61 = .ok (.aload_n 0, 1) := by decide +kernel
theorem dX7_bridge_62 : decode cX7_bridge 62 = .ok (.iload 8, 2) := by decide +kernel
theorem dX7_bridge_64 : decode cX7_bridge 64 = .ok (.iload 9, 2) := by decide +kernel
theorem dX7_bridge_66 : decode cX7_bridge 66 = .ok (.invokevirtual 56, 3) := by decide +kernel
theorem dX7_bridge_69 : decode cX7_bridge 69 = .ok (.istore 10, 2) := by decide +kernel
theorem dX7_bridge_71 : decode cX7_bridge 71 = .ok (.iload 10, 2) := by decide +kernel
theorem dX7_bridge_73 : decode cX7_bridge 73 = .ok (.ifCond .lt 55, 3) := by decide +kernel
theorem dX7_bridge_76 : decode cX7_bridge 76 = .ok (.iload 10, 2) := by decide +kernel
theorem dX7_bridge_78 : decode cX7_bridge 78 = .ok (.iload 5, 2) := by decide +kernel
theorem dX7_bridge_80 : decode cX7_bridge 80 = .ok (.if_icmp .eq 48, 3) := by decide +kernel
theorem dX7_bridge_83 : decode cX7_bridge 83 = .ok (.iload_n 3, 1) := by decide +kernel
theorem dX7_bridge_84 : decode cX7_bridge 84 = .ok (.iload 8, 2) := by decide +kernel
theorem dX7_bridge_86 : decode cX7_bridge 86 = .ok (.ishr, 1) := by decide +kernel
theorem dX7_bridge_87 : decode cX7_bridge 87 = .ok (.iconst 1, 1) := by decide +kernel
theorem dX7_bridge_88 : decode cX7_bridge 88 = .ok (.iand, 1) := by decide +kernel
theorem dX7_bridge_89 : decode cX7_bridge 89 = .ok (.iconst 1, 1) := by decide +kernel
theorem dX7_bridge_90 : decode cX7_bridge 90 = .ok (.if_icmp .ne 38, 3) := by decide +kernel
theorem dX7_bridge_93 : decode cX7_bridge 93 = .ok (.iload 4, 2) := by decide +kernel
theorem dX7_bridge_95 : decode cX7_bridge 95 = .ok (.iload 9, 2) := by decide +kernel
theorem dX7_bridge_97 : decode cX7_bridge 97 = .ok (.ishr, 1) := by decide +kernel
theorem dX7_bridge_98 : decode cX7_bridge 98 = .ok (.iconst 1, 1) := by decide +kernel
theorem dX7_bridge_99 : decode cX7_bridge 99 = .ok (.iand, 1) := by decide +kernel
theorem dX7_bridge_100 : decode cX7_bridge 100 = .ok (.iconst 1, 1) := by decide +kernel
theorem dX7_bridge_101 : decode cX7_bridge 101 = .ok (.if_icmp .ne 27, 3) := by decide +kernel
theorem dX7_bridge_104 : decode cX7_bridge 104 = .ok (.aload_n 0, 1) := by decide +kernel
theorem dX7_bridge_105 : decode cX7_bridge 105 = .ok (.iload_n 1, 1) := by decide +kernel
theorem dX7_bridge_106 : decode cX7_bridge 106 = .ok (.iload 8, 2) := by decide +kernel
theorem dX7_bridge_108 : decode cX7_bridge 108 = .ok (.invokevirtual 89, 3) := by decide +kernel
theorem dX7_bridge_111 : decode cX7_bridge 111 = .ok (.aload_n 0, 1) := by decide +kernel
theorem dX7_bridge_112 : decode cX7_bridge 112 = .ok (.getfield 20, 3) := by decide +kernel
theorem dX7_bridge_115 : decode cX7_bridge 115 = .ok (.iload 10, 2) := by decide +kernel
theorem dX7_bridge_117 : decode cX7_bridge 117 = .ok (.iaload, 1) := by decide +kernel
theorem dX7_bridge_118 : decode cX7_bridge 118 = .ok (.iadd, 1) := by decide +kernel
theorem dX7_bridge_119 : decode cX7_bridge 119 = .ok (.iload 7, 2) := by decide +kernel
theorem dX7_bridge_121 : decode cX7_bridge 121 = .ok (.if_icmp .ge 7, 3) := by decide +kernel
theorem dX7_bridge_124 : decode cX7_bridge 124 = .ok (.iconst 1, 1) := by decide +kernel
theorem dX7_bridge_125 : decode cX7_bridge 125 = .ok (.goto 4, 3) := by decide +kernel
theorem dX7_bridge_128 : decode cX7_bridge 128 = .ok (.iconst 0, 1) := by decide +kernel
theorem dX7_bridge_129 : decode cX7_bridge 129 = .ok (.istore 11, 2) := by decide +kernel
theorem dX7_bridge_131 : decode cX7_bridge 131 = .ok (.iload 11, 2) := by decide +kernel
theorem dX7_bridge_133 : decode cX7_bridge 133 = .ok (.ifCond .eq 21, 3) := by decide +kernel
theorem dX7_bridge_136 : decode cX7_bridge 136 = .ok (.aload_n 0, 1) := by decide +kernel
theorem dX7_bridge_137 : decode cX7_bridge 137 = .ok (.iload_n 1, 1) := by decide +kernel
theorem dX7_bridge_138 : decode cX7_bridge 138 = .ok (.iload 8, 2) := by decide +kernel
theorem dX7_bridge_140 : decode cX7_bridge 140 = .ok (.invokevirtual 89, 3) := by decide +kernel
theorem dX7_bridge_143 : decode cX7_bridge 143 = .ok (.aload_n 0, 1) := by decide +kernel
theorem dX7_bridge_144 : decode cX7_bridge 144 = .ok (.getfield 20, 3) := by decide +kernel
theorem dX7_bridge_147 : decode cX7_bridge 147 = .ok (.iload 10, 2) := by decide +kernel
theorem dX7_bridge_149 : decode cX7_bridge 149 = .ok (.iaload, 1) := by decide +kernel
theorem dX7_bridge_150 : decode cX7_bridge 150 = .ok (.iadd, 1) := by decide +kernel
theorem dX7_bridge_151 : decode cX7_bridge 151 = .ok (.goto 5, 3) := by decide +kernel
theorem dX7_bridge_154 : decode cX7_bridge 154 = .ok (.iload 7, 2) := by decide +kernel
theorem dX7_bridge_156 : decode cX7_bridge 156 = .ok (.istore 7, 2) := by decide +kernel
theorem dX7_bridge_158 : decode cX7_bridge 158 = .ok (.iload 11, 2) := by decide +kernel
theorem dX7_bridge_160 : decode cX7_bridge 160 = .ok (.ifCond .eq 14, 3) := by decide +kernel
theorem dX7_bridge_163 : decode cX7_bridge 163 = .ok (.bipush 12, 2) := by decide +kernel
theorem dX7_bridge_165 : decode cX7_bridge 165 = .ok (.iload 8, 2) := by decide +kernel
theorem dX7_bridge_167 : decode cX7_bridge 167 = .ok (.imul, 1) := by decide +kernel
theorem dX7_bridge_168 : decode cX7_bridge 168 = .ok (.iload 9, 2) := by decide +kernel
theorem dX7_bridge_170 : decode cX7_bridge 170 = .ok (.iadd, 1) := by decide +kernel
theorem dX7_bridge_171 : decode cX7_bridge 171 = .ok (.goto 5, 3) := by decide +kernel
theorem dX7_bridge_174 : decode cX7_bridge 174 = .ok (.iload 6, 2) := by decide +kernel
theorem dX7_bridge_176 : decode cX7_bridge 176 = .ok (.istore 6, 2) := by decide +kernel
theorem dX7_bridge_178 : decode cX7_bridge 178 = .ok (.iinc 9 1, 3) := by decide +kernel
theorem dX7_bridge_181 : decode cX7_bridge 181 = .ok (.goto (-129), 3) := by decide +kernel
theorem dX7_bridge_184 : decode cX7_bridge 184 = .ok (.iinc 8 1, 3) := by decide +kernel
theorem dX7_bridge_187 : decode cX7_bridge 187 = .ok (.goto (-147), 3) := by decide +kernel
theorem dX7_bridge_190 : decode cX7_bridge 190 = .ok (.iload 6, 2) := by decide +kernel
theorem dX7_bridge_192 : decode cX7_bridge 192 = .ok (.ireturn, 1) := by decide +kernel
theorem dX7_tunnel_0 : decode cX7_tunnel 0 = .ok (.aload_n 0, 1) := by decide +kernel
