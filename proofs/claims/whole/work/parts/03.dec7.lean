/-! decode rows, as printed -/
theorem dX7_covered_46 : decode cX7_covered 46 = .ok (.aload_n 0, 1) := by decide +kernel
theorem dX7_covered_47 : decode cX7_covered 47 = .ok (.iconst 0, 1) := by decide +kernel
theorem dX7_covered_48 : decode cX7_covered 48 = .ok (.iload_n 3, 1) := by decide +kernel
theorem dX7_covered_49 : decode cX7_covered 49 = .ok (.iload 4, 2) := by decide +kernel
theorem dX7_covered_51 : decode cX7_covered 51 = .ok (.iconst (-1), 1) := by decide +kernel
theorem dX7_covered_52 : decode cX7_covered 52 = .ok (.invokevirtual 72, 3) := by decide +kernel
theorem dX7_covered_55 : decode cX7_covered 55 = .ok (.ifCond .lt 18, 3) := by decide +kernel
theorem dX7_covered_58 : decode cX7_covered 58 = .ok (.aload_n 0, 1) := by decide +kernel
theorem dX7_covered_59 : decode cX7_covered 59 = .ok (.iload_n 3, 1) := by decide +kernel
theorem dX7_covered_60 : decode cX7_covered 60 = .ok (.iload 4, 2) := by decide +kernel
theorem dX7_covered_62 : decode cX7_covered 62 = .ok (.iload_n 1, 1) := by decide +kernel
theorem dX7_covered_63 : decode cX7_covered 63 = .ok (.invokevirtual 185, 3) := by decide +kernel
theorem dX7_covered_66 : decode cX7_covered 66 = .ok (.ifCond .eq 7, 3) := by decide +kernel
theorem dX7_covered_69 : decode cX7_covered 69 = .ok (.iconst 1, 1) := by decide +kernel
theorem dX7_covered_70 : decode cX7_covered 70 = .ok (.goto 4, 3) := by decide +kernel
theorem dX7_covered_73 : decode cX7_covered 73 = .ok (.iconst 0, 1) := by decide +kernel
theorem dX7_covered_74 : decode cX7_covered 74 = .ok (.iadd, 1) := by decide +kernel
theorem dX7_covered_75 : decode cX7_covered 75 = .ok (.istore_n 2, 1) := by decide +kernel
theorem dX7_covered_76 : decode cX7_covered 76 = .ok (.iinc 4 1, 3) := by decide +kernel
theorem dX7_covered_79 : decode cX7_covered 79 = .ok (.goto (-43), 3) := by decide +kernel
theorem dX7_covered_82 : decode cX7_covered 82 = .ok (.iinc 3 1, 3) := by decide +kernel
theorem dX7_covered_85 : decode cX7_covered 85 = .ok (.goto (-60), 3) := by decide +kernel
theorem dX7_covered_88 : decode cX7_covered 88 = .ok (.iload_n 2, 1) := by decide +kernel
theorem dX7_covered_89 : decode cX7_covered 89 = .ok (.ireturn, 1) := by decide +kernel
theorem dX7_cut_0 : decode cX7_cut 0 = .ok (.aload_n 0, 1) := by decide +kernel
theorem dX7_cut_1 : decode cX7_cut 1 = .ok (.iconst 0, 1) := by decide +kernel
theorem dX7_cut_2 : decode cX7_cut 2 = .ok (.putfield 32, 3) := by decide +kernel
theorem dX7_cut_5 : decode cX7_cut 5 = .ok (.aload_n 0, 1) := by decide +kernel
theorem dX7_cut_6 : decode cX7_cut 6 = .ok (.iload_n 1, 1) := by decide +kernel
theorem dX7_cut_7 : decode cX7_cut 7 = .ok (.iload_n 2, 1) := by decide +kernel
theorem dX7_cut_8 : decode cX7_cut 8 = .ok (.invokevirtual 52, 3) := by decide +kernel
theorem dX7_cut_11 : decode cX7_cut 11 = .ok (.ifCond .ne 5, 3) := by decide +kernel
theorem dX7_cut_14 : decode cX7_cut 14 = .ok (.iconst (-1), 1) := by decide +kernel
theorem dX7_cut_15 : decode cX7_cut 15 = .ok (.ireturn, 1) := by decide +kernel
theorem dX7_cut_16 : decode cX7_cut 16 = .ok (.bipush 24, 2) := by decide +kernel
theorem dX7_cut_18 : decode cX7_cut 18 = .ok (.istore_n 3, 1) := by decide +kernel
theorem dX7_cut_19 : decode cX7_cut 19 = .ok (.iconst 0, 1) := by decide +kernel
theorem dX7_cut_20 : decode cX7_cut 20 = .ok (.istore 4, 2) := by decide +kernel
theorem dX7_cut_22 : decode cX7_cut 22 = .ok (.iload 4, 2) := by decide +kernel
theorem dX7_cut_24 : decode cX7_cut 24 = .ok (.iconst 1, 1) := by decide +kernel
theorem dX7_cut_25 : decode cX7_cut 25 = .ok (.aload_n 0, 1) := by decide +kernel
theorem dX7_cut_26 : decode cX7_cut 26 = .ok (.getfield 7, 3) := by decide +kernel
theorem dX7_cut_29 : decode cX7_cut 29 = .ok (.ishl, 1) := by decide +kernel
theorem dX7_cut_30 : decode cX7_cut 30 = .ok (.if_icmp .ge 99, 3) := by decide +kernel
theorem dX7_cut_33 : decode cX7_cut 33 = .ok (.iconst 0, 1) := by decide +kernel
theorem dX7_cut_34 : decode cX7_cut 34 = .ok (.istore 5, 2) := by decide +kernel
theorem dX7_cut_36 : decode cX7_cut 36 = .ok (.iconst 0, 1) := by decide +kernel
theorem dX7_cut_37 : decode cX7_cut 37 = .ok (.istore 6, 2) := by decide +kernel
theorem dX7_cut_39 : decode cX7_cut 39 = .ok (.iload 6, 2) := by decide +kernel
theorem dX7_cut_41 : decode cX7_cut 41 = .ok (.aload_n 0, 1) := by decide +kernel
theorem dX7_cut_42 : decode cX7_cut 42 = .ok (.getfield 35, 3) := by decide +kernel
theorem dX7_cut_45 : decode cX7_cut 45 = .ok (.if_icmp .ge 46, 3) := by decide +kernel
theorem dX7_cut_48 : decode cX7_cut 48 = .ok (.iload 5, 2) := by decide +kernel
theorem dX7_cut_50 : decode cX7_cut 50 = .ok (.iload 4, 2) := by decide +kernel
theorem dX7_cut_52 : decode cX7_cut 52 = .ok (.aload_n 0, 1) := by decide +kernel
theorem dX7_cut_53 : decode cX7_cut 53 = .ok (.getfield 13, 3) := by decide +kernel
theorem dX7_cut_56 : decode cX7_cut 56 = .ok (.iload 6, 2) := by decide +kernel
theorem dX7_cut_58 : decode cX7_cut 58 = .ok (.iaload, 1) := by decide +kernel
theorem dX7_cut_59 : decode cX7_cut 59 = .ok (.ishr, 1) := by decide +kernel
theorem dX7_cut_60 : decode cX7_cut 60 = .ok (.iconst 1, 1) := by decide +kernel
theorem dX7_cut_61 : decode cX7_cut 61 = .ok (.iand, 1) := by decide +kernel
theorem dX7_cut_62 : decode cX7_cut 62 = .ok (.iload 4, 2) := by decide +kernel
theorem dX7_cut_64 : decode cX7_cut 64 = .ok (.aload_n 0, 1) := by decide +kernel
theorem dX7_cut_65 : decode cX7_cut 65 = .ok (.getfield 17, 3) := by decide +kernel
theorem dX7_cut_68 : decode cX7_cut 68 = .ok (.iload 6, 2) := by decide +kernel
theorem dX7_cut_70 : decode cX7_cut 70 = .ok (.iaload, 1) := by decide +kernel
theorem dX7_cut_71 : decode cX7_cut 71 = .ok (.ishr, 1) := by decide +kernel
theorem dX7_cut_72 : decode cX7_cut 72 = .ok (.iconst 1, 1) := by decide +kernel
theorem dX7_cut_73 : decode cX7_cut 73 = .ok (.iand, 1) := by decide +kernel
theorem dX7_cut_74 : decode cX7_cut 74 = .ok (.if_icmp .eq 7, 3) := by decide +kernel
theorem dX7_cut_77 : decode cX7_cut 77 = .ok (.iconst 1, 1) := by decide +kernel
theorem dX7_cut_78 : decode cX7_cut 78 = .ok (.goto 4, 3) := by decide +kernel
theorem dX7_cut_81 : decode cX7_cut 81 = .ok (.iconst 0, 1) := by decide +kernel
theorem dX7_cut_82 : decode cX7_cut 82 = .ok (.iadd, 1) := by decide +kernel
theorem dX7_cut_83 : decode cX7_cut 83 = .ok (.istore 5, 2) := by decide +kernel
theorem dX7_cut_85 : decode cX7_cut 85 = .ok (.iinc 6 1, 3) := by decide +kernel
theorem dX7_cut_88 : decode cX7_cut 88 = .ok (.goto (-49), 3) := by decide +kernel
theorem dX7_cut_91 : decode cX7_cut 91 = .ok (.iload 4, 2) := by decide +kernel
theorem dX7_cut_93 : decode cX7_cut 93 = .ok (.iload_n 1, 1) := by decide +kernel
theorem dX7_cut_94 : decode cX7_cut 94 = .ok (.ishr, 1) := by decide +kernel
theorem dX7_cut_95 : decode cX7_cut 95 = .ok (.iconst 1, 1) := by decide +kernel
theorem dX7_cut_96 : decode cX7_cut 96 = .ok (.iand, 1) := by decide +kernel
theorem dX7_cut_97 : decode cX7_cut 97 = .ok (.iconst 1, 1) := by decide +kernel
theorem dX7_cut_98 : decode cX7_cut 98 = .ok (.if_icmp .ne 23, 3) := by decide +kernel
theorem dX7_cut_101 : decode cX7_cut 101 = .ok (.iload 4, 2) := by decide +kernel
theorem dX7_cut_103 : decode cX7_cut 103 = .ok (.iload_n 2, 1) := by decide +kernel
theorem dX7_cut_104 : decode cX7_cut 104 = .ok (.ishr, 1) := by decide +kernel
theorem dX7_cut_105 : decode cX7_cut 105 = .ok (.iconst 1, 1) := by decide +kernel
theorem dX7_cut_106 : decode cX7_cut 106 = .ok (.iand, 1) := by decide +kernel
theorem dX7_cut_107 : decode cX7_cut 107 = .ok (.ifCond .ne 14, 3) := by decide +kernel
theorem dX7_cut_110 : decode cX7_cut 110 = .ok (.iload 5, 2) := by decide +kernel
theorem dX7_cut_112 : decode cX7_cut 112 = .ok (.iload_n 3, 1) := by decide +kernel
theorem dX7_cut_113 : decode cX7_cut 113 = .ok (.if_icmp .ge 8, 3) := by decide +kernel
theorem dX7_cut_116 : decode cX7_cut 116 = .ok (.iload 5, 2) := by decide +kernel
theorem dX7_cut_118 : decode cX7_cut 118 = .ok (.goto 4, 3) := by decide +kernel
theorem dX7_cut_121 : decode cX7_cut 121 = .ok (.iload_n 3, 1) := by decide +kernel
theorem dX7_cut_122 : decode cX7_cut 122 = .ok (.istore_n 3, 1) := by decide +kernel
theorem dX7_cut_123 : decode cX7_cut 123 = .ok (.iinc 4 1, 3) := by decide +kernel
theorem dX7_cut_126 : decode cX7_cut 126 = .ok (.goto (-104), 3) := by decide +kernel
theorem dX7_cut_129 : decode cX7_cut 129 = .ok (.iload_n 3, 1) := by decide +kernel
theorem dX7_cut_130 : decode cX7_cut 130 = .ok (.ireturn, 1) := by decide +kernel
theorem dX7_spare_0 : decode cX7_spare 0 = .ok (.aload_n 0, 1) := by decide +kernel
theorem dX7_spare_1 : decode cX7_spare 1 = .ok (.iconst 0, 1) := by decide +kernel
theorem dX7_spare_2 : decode cX7_spare 2 = .ok (.putfield 32, 3) := by decide +kernel
theorem dX7_spare_5 : decode cX7_spare 5 = .ok (.aload_n 0, 1) := by decide +kernel
theorem dX7_spare_6 : decode cX7_spare 6 = .ok (.iload_n 1, 1) := by decide +kernel
theorem dX7_spare_7 : decode cX7_spare 7 = .ok (.iload_n 2, 1) := by decide +kernel
theorem dX7_spare_8 : decode cX7_spare 8 = .ok (.invokevirtual 52, 3) := by decide +kernel
theorem dX7_spare_11 : decode cX7_spare 11 = .ok (.ifCond .ne 5, 3) := by decide +kernel
theorem dX7_spare_14 : decode cX7_spare 14 = .ok (.iconst (-1), 1) := by decide +kernel
theorem dX7_spare_15 : decode cX7_spare 15 = .ok (.ireturn, 1) := by decide +kernel
theorem dX7_spare_16 : decode cX7_spare 16 = .ok (.aload_n 0, 1) := by decide +kernel
theorem dX7_spare_17 : decode cX7_spare 17 = .ok (.invokevirtual 83, 3) := by decide +kernel
theorem dX7_spare_20 : decode cX7_spare 20 = .ok (.aload_n 0, 1) := by decide +kernel
theorem dX7_spare_21 : decode cX7_spare 21 = .ok (.iload_n 1, 1) := by decide +kernel
theorem dX7_spare_22 : decode cX7_spare 22 = .ok (.iload_n 2, 1) := by decide +kernel
theorem dX7_spare_23 : decode cX7_spare 23 = .ok (.invokevirtual 89, 3) := by decide +kernel
theorem dX7_spare_26 : decode cX7_spare 26 = .ok (.istore_n 3, 1) := by decide +kernel
theorem dX7_spare_27 : decode cX7_spare 27 = .ok (.iconst 0, 1) := by decide +kernel
theorem dX7_spare_28 : decode cX7_spare 28 = .ok (.istore 4, 2) := by decide +kernel
theorem dX7_spare_30 : decode cX7_spare 30 = .ok (.iload 4, 2) := by decide +kernel
theorem dX7_spare_32 : decode cX7_spare 32 = .ok (.aload_n 0, 1) := by decide +kernel
theorem dX7_spare_33 : decode cX7_spare 33 = .ok (.getfield 35, 3) := by decide +kernel
theorem dX7_spare_36 : decode cX7_spare 36 = .ok (.if_icmp .ge 53, 3) := by decide +kernel
theorem dX7_spare_39 : decode cX7_spare 39 = .ok (.aload_n 0, 1) := by decide +kernel
theorem dX7_spare_40 : decode cX7_spare 40 = .ok (.sipush 144, 3) := by decide +kernel
theorem dX7_spare_43 : decode cX7_spare 43 = .ok (.iload 4, 2) := by decide +kernel
theorem dX7_spare_45 : decode cX7_spare 45 = .ok (.invokevirtual 68, 3) := by decide +kernel
theorem dX7_spare_48 : decode cX7_spare 48 = .ok (.aload_n 0, 1) := by decide +kernel
theorem dX7_spare_49 : decode cX7_spare 49 = .ok (.getfield 26, 3) := by decide +kernel
theorem dX7_spare_52 : decode cX7_spare 52 = .ok (.sipush 144, 3) := by decide +kernel
theorem dX7_spare_55 : decode cX7_spare 55 = .ok (.iload_n 1, 1) := by decide +kernel
theorem dX7_spare_56 : decode cX7_spare 56 = .ok (.iload_n 2, 1) := by decide +kernel
theorem dX7_spare_57 : decode cX7_spare 57 = .ok (.invokestatic 63, 3) := by decide +kernel
theorem dX7_spare_60 : decode cX7_spare 60 = .ok (.iaload, 1) := by decide +kernel
theorem dX7_spare_61 : decode cX7_spare 61 = .ok (.iload_n 3, 1) := by decide +kernel
theorem dX7_spare_62 : decode cX7_spare 62 = .ok (.if_icmp .le 19, 3) := by decide +kernel
theorem dX7_spare_65 : decode cX7_spare 65 = .ok (.aload_n 0, 1) := by decide +kernel
theorem dX7_spare_66 : decode cX7_spare 66 = .ok (.getfield 26, 3) := by decide +kernel
theorem dX7_spare_69 : decode cX7_spare 69 = .ok (.sipush 144, 3) := by decide +kernel
theorem dX7_spare_72 : decode cX7_spare 72 = .ok (.iload_n 1, 1) := by decide +kernel
theorem dX7_spare_73 : decode cX7_spare 73 = .ok (.iload_n 2, 1) := by decide +kernel
theorem dX7_spare_74 : decode cX7_spare 74 = .ok (.invokestatic 63, 3) := by decide +kernel
theorem dX7_spare_77 : decode cX7_spare 77 = .ok (.iaload, 1) := by decide +kernel
theorem dX7_spare_78 : decode cX7_spare 78 = .ok (.goto 4, 3) := by decide +kernel
theorem dX7_spare_81 : decode cX7_spare 81 = .ok (.iload_n 3, 1) := by decide +kernel
theorem dX7_spare_82 : decode cX7_spare 82 = .ok (.istore_n 3, 1) := by decide +kernel
theorem dX7_spare_83 : decode cX7_spare 83 = .ok (.iinc 4 1, 3) := by decide +kernel
theorem dX7_spare_86 : decode cX7_spare 86 = .ok (.goto (-56), 3) := by decide +kernel
theorem dX7_spare_89 : decode cX7_spare 89 = .ok (.iload_n 3, 1) := by decide +kernel
theorem dX7_spare_90 : decode cX7_spare 90 = .ok (.ldc 67, 2) := by decide +kernel
theorem dX7_spare_92 : decode cX7_spare 92 = .ok (.if_icmp .ge 14, 3) := by decide +kernel
theorem dX7_spare_95 : decode cX7_spare 95 = .ok (.iload_n 3, 1) := by decide +kernel
theorem dX7_spare_96 : decode cX7_spare 96 = .ok (.aload_n 0, 1) := by decide +kernel
theorem dX7_spare_97 : decode cX7_spare 97 = .ok (.iload_n 1, 1) := by decide +kernel
theorem dX7_spare_98 : decode cX7_spare 98 = .ok (.iload_n 2, 1) := by decide +kernel
theorem dX7_spare_99 : decode cX7_spare 99 = .ok (.invokevirtual 89, 3) := by decide +kernel
theorem dX7_spare_102 : decode cX7_spare 102 = .ok (.isub, 1) := by decide +kernel
theorem dX7_spare_103 : decode cX7_spare 103 = .ok (.goto 4, 3) := by decide +kernel
theorem dX7_spare_106 : decode cX7_spare 106 = .ok (.iconst (-1), 1) := by decide +kernel
theorem dX7_spare_107 : decode cX7_spare 107 = .ok (.ireturn, 1) := by decide +kernel
theorem dX7_centre_0 : decode cX7_centre 0 = .ok (.aload_n 0, 1) := by decide +kernel
theorem dX7_centre_1 : decode cX7_centre 1 = .ok (.iconst 0, 1) := by decide +kernel
theorem dX7_centre_2 : decode cX7_centre 2 = .ok (.putfield 32, 3) := by decide +kernel
theorem dX7_centre_5 : decode cX7_centre 5 = .ok (.aload_n 0, 1) := by decide +kernel
theorem dX7_centre_6 : decode cX7_centre 6 = .ok (.invokevirtual 83, 3) := by decide +kernel
theorem dX7_centre_9 : decode cX7_centre 9 = .ok (.iconst (-1), 1) := by decide +kernel
theorem dX7_centre_10 : decode cX7_centre 10 = .ok (.istore_n 1, 1) := by decide +kernel
theorem dX7_centre_11 : decode cX7_centre 11 = .ok (.ldc 67, 2) := by decide +kernel
theorem dX7_centre_13 : decode cX7_centre 13 = .ok (.istore_n 2, 1) := by decide +kernel
theorem dX7_centre_14 : decode cX7_centre 14 = .ok (.iconst 0, 1) := by decide +kernel
theorem dX7_centre_15 : decode cX7_centre 15 = .ok (.istore_n 3, 1) := by decide +kernel
theorem dX7_centre_16 : decode cX7_centre 16 = .ok (.iload_n 3, 1) := by decide +kernel
theorem dX7_centre_17 : decode cX7_centre 17 = .ok (.aload_n 0, 1) := by decide +kernel
theorem dX7_centre_18 : decode cX7_centre 18 = .ok (.getfield 7, 3) := by decide +kernel
theorem dX7_centre_21 : decode cX7_centre 21 = .ok (.if_icmp .ge 81, 3) := by decide +kernel
theorem dX7_centre_24 : decode cX7_centre 24 = .ok (.iconst 0, 1) := by decide +kernel
theorem dX7_centre_25 : decode cX7_centre 25 = .ok (.istore 4, 2) := by decide +kernel
theorem dX7_centre_27 : decode cX7_centre 27 = .ok (.iconst 0, 1) := by decide +kernel
theorem dX7_centre_28 : decode cX7_centre 28 = .ok (.istore 5, 2) := by decide +kernel
theorem dX7_centre_30 : decode cX7_centre 30 = .ok (.iload 5, 2) := by decide +kernel
theorem dX7_centre_32 : decode cX7_centre 32 = .ok (.aload_n 0, 1) := by decide +kernel
theorem dX7_centre_33 : decode cX7_centre 33 = .ok (.getfield 7, 3) := by decide +kernel
theorem dX7_centre_36 : decode cX7_centre 36 = .ok (.if_icmp .ge 35, 3) := by decide +kernel
theorem dX7_centre_39 : decode cX7_centre 39 = .ok (.aload_n 0, 1) := by decide +kernel
theorem dX7_centre_40 : decode cX7_centre 40 = .ok (.iload_n 3, 1) := by decide +kernel
theorem dX7_centre_41 : decode cX7_centre 41 = .ok (.iload 5, 2) := by decide +kernel
theorem dX7_centre_43 : decode cX7_centre 43 = .ok (.invokevirtual 89, 3) := by decide +kernel
theorem dX7_centre_46 : decode cX7_centre 46 = .ok (.iload 4, 2) := by decide +kernel
theorem dX7_centre_48 : decode cX7_centre 48 = .ok (.if_icmp .le 13, 3) := by decide +kernel
theorem dX7_centre_51 : decode cX7_centre 51 = .ok (.aload_n 0, 1) := by decide +kernel
theorem dX7_centre_52 : decode cX7_centre 52 = .ok (.iload_n 3, 1) := by decide +kernel
theorem dX7_centre_53 : decode cX7_centre 53 = .ok (.iload 5, 2) := by decide +kernel
theorem dX7_centre_55 : decode cX7_centre 55 = .ok (.invokevirtual 89, 3) := by decide +kernel
theorem dX7_centre_58 : decode cX7_centre 58 = .ok (.goto 5, 3) := by decide +kernel
theorem dX7_centre_61 : decode cX7_centre 61 = .ok (.iload 4, 2) := by decide +kernel
theorem dX7_centre_63 : decode cX7_centre 63 = .ok (.istore 4, 2) := by decide +kernel
theorem dX7_centre_65 : decode cX7_centre 65 = .ok (.iinc 5 1, 3) := by decide +kernel
theorem dX7_centre_68 : decode cX7_centre 68 = .ok (.goto (-38), 3) := by decide +kernel
theorem dX7_centre_71 : decode cX7_centre 71 = .ok (.iload 4, 2) := by decide +kernel
theorem dX7_centre_73 : decode cX7_centre 73 = .ok (.iload_n 2, 1) := by decide +kernel
theorem dX7_centre_74 : decode cX7_centre 74 = .ok (.if_icmp .ge 7, 3) := by decide +kernel
theorem dX7_centre_77 : decode cX7_centre 77 = .ok (.iload_n 3, 1) := by decide +kernel
theorem dX7_centre_78 : decode cX7_centre 78 = .ok (.goto 4, 3) := by decide +kernel
theorem dX7_centre_81 : decode cX7_centre 81 = .ok (.iload_n 1, 1) := by decide +kernel
theorem dX7_centre_82 : decode cX7_centre 82 = .ok (.istore_n 1, 1) := by decide +kernel
theorem dX7_centre_83 : decode cX7_centre 83 = .ok (.iload 4, 2) := by decide +kernel
theorem dX7_centre_85 : decode cX7_centre 85 = .ok (.iload_n 2, 1) := by decide +kernel
theorem dX7_centre_86 : decode cX7_centre 86 = .ok (.if_icmp .ge 8, 3) := by decide +kernel
theorem dX7_centre_89 : decode cX7_centre 89 = .ok (.iload 4, 2) := by decide +kernel
theorem dX7_centre_91 : decode cX7_centre 91 = .ok (.goto 4, 3) := by decide +kernel
theorem dX7_centre_94 : decode cX7_centre 94 = .ok (.iload_n 2, 1) := by decide +kernel
theorem dX7_centre_95 : decode cX7_centre 95 = .ok (.istore_n 2, 1) := by decide +kernel
theorem dX7_centre_96 : decode cX7_centre 96 = .ok (.iinc 3 1, 3) := by decide +kernel
theorem dX7_centre_99 : decode cX7_centre 99 = .ok (.goto (-83), 3) := by decide +kernel
theorem dX7_centre_102 : decode cX7_centre 102 = .ok (.iload_n 1, 1) := by decide +kernel
theorem dX7_centre_103 : decode cX7_centre 103 = .ok (.ireturn, 1) := by decide +kernel
theorem dX7_count_0 : decode cX7_count 0 = .ok (.aload_n 0, 1) := by decide +kernel
theorem dX7_count_1 : decode cX7_count 1 = .ok (.iconst 0, 1) := by decide +kernel
theorem dX7_count_2 : decode cX7_count 2 = .ok (.putfield 32, 3) := by decide +kernel
theorem dX7_count_5 : decode cX7_count 5 = .ok (.iconst 0, 1) := by decide +kernel
theorem dX7_count_6 : decode cX7_count 6 = .ok (.istore_n 2, 1) := by decide +kernel
theorem dX7_count_7 : decode cX7_count 7 = .ok (.iload_n 1, 1) := by decide +kernel
theorem dX7_count_8 : decode cX7_count 8 = .ok (.tableswitch 129 0 5 #[40, 45, 50, 55, 60, 102], 40) := by decide +kernel
theorem dX7_count_48 : decode cX7_count 48 = .ok (.aload_n 0, 1) := by decide +kernel
theorem dX7_count_49 : decode cX7_count 49 = .ok (.getfield 7, 3) := by decide +kernel
theorem dX7_count_52 : decode cX7_count 52 = .ok (.ireturn, 1) := by decide +kernel
theorem dX7_count_53 : decode cX7_count 53 = .ok (.aload_n 0, 1) := by decide +kernel
theorem dX7_count_54 : decode cX7_count 54 = .ok (.getfield 35, 3) := by decide +kernel
theorem dX7_count_57 : decode cX7_count 57 = .ok (.ireturn, 1) := by decide +kernel
theorem dX7_count_58 : decode cX7_count 58 = .ok (.aload_n 0, 1) := by decide +kernel
theorem dX7_count_59 : decode cX7_count 59 = .ok (.getfield 46, 3) := by decide +kernel
theorem dX7_count_62 : decode cX7_count 62 = .ok (.ireturn, 1) := by decide +kernel
theorem dX7_count_63 : decode cX7_count 63 = .ok (.aload_n 0, 1) := by decide +kernel
theorem dX7_count_64 : decode cX7_count 64 = .ok (.getfield 49, 3) := by decide +kernel
theorem dX7_count_67 : decode cX7_count 67 = .ok (.ireturn, 1) := by decide +kernel
theorem dX7_count_68 : decode cX7_count 68 = .ok (.iconst 0, 1) := by decide +kernel
theorem dX7_count_69 : decode cX7_count 69 = .ok (.istore_n 3, 1) := by decide +kernel
theorem dX7_count_70 : decode cX7_count 70 = .ok (.iload_n 3, 1) := by decide +kernel
theorem dX7_count_71 : decode cX7_count 71 = .ok (.aload_n 0, 1) := by decide +kernel
theorem dX7_count_72 : decode cX7_count 72 = .ok (.getfield 35, 3) := by decide +kernel
theorem dX7_count_75 : decode cX7_count 75 = .ok (.if_icmp .ge 33, 3) := by decide +kernel
theorem dX7_count_78 : decode cX7_count 78 = .ok (.iload_n 2, 1) := by decide +kernel
theorem dX7_count_79 : decode cX7_count 79 = .ok (.aload_n 0, 1) := by decide +kernel
theorem dX7_count_80 : decode cX7_count 80 = .ok (.iload_n 3, 1) := by decide +kernel
theorem dX7_count_81 : decode cX7_count 81 = .ok (.aload_n 0, 1) := by decide +kernel
theorem dX7_count_82 : decode cX7_count 82 = .ok (.getfield 46, 3) := by decide +kernel
theorem dX7_count_85 : decode cX7_count 85 = .ok (.aload_n 0, 1) := by decide +kernel
theorem dX7_count_86 : decode cX7_count 86 = .ok (.getfield 49, 3) := by decide +kernel
theorem dX7_count_89 : decode cX7_count 89 = .ok (.invokevirtual 76, 3) := by decide +kernel
theorem dX7_count_92 : decode cX7_count 92 = .ok (.ifCond .eq 7, 3) := by decide +kernel
theorem dX7_count_95 : decode cX7_count 95 = .ok (.iconst 1, 1) := by decide +kernel
theorem dX7_count_96 : decode cX7_count 96 = .ok (.goto 4, 3) := by decide +kernel
theorem dX7_count_99 : decode cX7_count 99 = .ok (.iconst 0, 1) := by decide +kernel
theorem dX7_count_100 : decode cX7_count 100 = .ok (.iadd, 1) := by decide +kernel
theorem dX7_count_101 : decode cX7_count 101 = .ok (.istore_n 2, 1) := by decide +kernel
theorem dX7_count_102 : decode cX7_count 102 = .ok (.iinc 3 1, 3) := by decide +kernel
theorem dX7_count_105 : decode cX7_count 105 = .ok (.goto (-35), 3) := by decide +kernel
theorem dX7_count_108 : decode cX7_count 108 = .ok (.iload_n 2, 1) := by decide +kernel
theorem dX7_count_109 : decode cX7_count 109 = .ok (.ireturn, 1) := by decide +kernel
theorem dX7_count_110 : decode cX7_count 110 = .ok (.iconst 0, 1) := by decide +kernel
theorem dX7_count_111 : decode cX7_count 111 = .ok (.istore_n 3, 1) := by decide +kernel
theorem dX7_count_112 : decode cX7_count 112 = .ok (.iload_n 3, 1) := by decide +kernel
theorem dX7_count_113 : decode cX7_count 113 = .ok (.aload_n 0, 1) := by decide +kernel
theorem dX7_count_114 : decode cX7_count 114 = .ok (.getfield 35, 3) := by decide +kernel
theorem dX7_count_117 : decode cX7_count 117 = .ok (.if_icmp .ge 18, 3) := by decide +kernel
theorem dX7_count_120 : decode cX7_count 120 = .ok (.iload_n 2, 1) := by decide +kernel
theorem dX7_count_121 : decode cX7_count 121 = .ok (.aload_n 0, 1) := by decide +kernel
theorem dX7_count_122 : decode cX7_count 122 = .ok (.getfield 20, 3) := by decide +kernel
theorem dX7_count_125 : decode cX7_count 125 = .ok (.iload_n 3, 1) := by decide +kernel
theorem dX7_count_126 : decode cX7_count 126 = .ok (.iaload, 1) := by decide +kernel
theorem dX7_count_127 : decode cX7_count 127 = .ok (.iadd, 1) := by decide +kernel
theorem dX7_count_128 : decode cX7_count 128 = .ok (.istore_n 2, 1) := by decide +kernel
theorem dX7_count_129 : decode cX7_count 129 = .ok (.iinc 3 1, 3) := by decide +kernel
theorem dX7_count_132 : decode cX7_count 132 = .ok (.goto (-20), 3) := by decide +kernel
theorem dX7_count_135 : decode cX7_count 135 = .ok (.iload_n 2, 1) := by decide +kernel
theorem dX7_count_136 : decode cX7_count 136 = .ok (.ireturn, 1) := by decide +kernel
theorem dX7_count_137 : decode cX7_count 137 = .ok (.iconst (-1), 1) := by decide +kernel
theorem dX7_count_138 : decode cX7_count 138 = .ok (.ireturn, 1) := by decide +kernel
theorem dJ6_bitCount_0f7a4_0 : decode cJ6_bitCount_0f7a4 0 = .ok (.iload_n 0, 1) := by decide +kernel
theorem dJ6_bitCount_0f7a4_1 : decode cJ6_bitCount_0f7a4 1 = .ok (.iload_n 0, 1) := by decide +kernel
theorem dJ6_bitCount_0f7a4_2 : decode cJ6_bitCount_0f7a4 2 = .ok (.iconst 1, 1) := by decide +kernel
theorem dJ6_bitCount_0f7a4_3 : decode cJ6_bitCount_0f7a4 3 = .ok (.iushr, 1) := by decide +kernel
theorem dJ6_bitCount_0f7a4_4 : decode cJ6_bitCount_0f7a4 4 = .ok (.ldc_w 265, 3) := by decide +kernel
theorem dJ6_bitCount_0f7a4_7 : decode cJ6_bitCount_0f7a4 7 = .ok (.iand, 1) := by decide +kernel
theorem dJ6_bitCount_0f7a4_8 : decode cJ6_bitCount_0f7a4 8 = .ok (.isub, 1) := by decide +kernel
theorem dJ6_bitCount_0f7a4_9 : decode cJ6_bitCount_0f7a4 9 = .ok (.istore_n 0, 1) := by decide +kernel
theorem dJ6_bitCount_0f7a4_10 : decode cJ6_bitCount_0f7a4 10 = .ok (.iload_n 0, 1) := by decide +kernel
theorem dJ6_bitCount_0f7a4_11 : decode cJ6_bitCount_0f7a4 11 = .ok (.ldc_w 266, 3) := by decide +kernel
theorem dJ6_bitCount_0f7a4_14 : decode cJ6_bitCount_0f7a4 14 = .ok (.iand, 1) := by decide +kernel
theorem dJ6_bitCount_0f7a4_15 : decode cJ6_bitCount_0f7a4 15 = .ok (.iload_n 0, 1) := by decide +kernel
theorem dJ6_bitCount_0f7a4_16 : decode cJ6_bitCount_0f7a4 16 = .ok (.iconst 2, 1) := by decide +kernel
theorem dJ6_bitCount_0f7a4_17 : decode cJ6_bitCount_0f7a4 17 = .ok (.iushr, 1) := by decide +kernel
theorem dJ6_bitCount_0f7a4_18 : decode cJ6_bitCount_0f7a4 18 = .ok (.ldc_w 266, 3) := by decide +kernel
theorem dJ6_bitCount_0f7a4_21 : decode cJ6_bitCount_0f7a4 21 = .ok (.iand, 1) := by decide +kernel
theorem dJ6_bitCount_0f7a4_22 : decode cJ6_bitCount_0f7a4 22 = .ok (.iadd, 1) := by decide +kernel
theorem dJ6_bitCount_0f7a4_23 : decode cJ6_bitCount_0f7a4 23 = .ok (.istore_n 0, 1) := by decide +kernel
theorem dJ6_bitCount_0f7a4_24 : decode cJ6_bitCount_0f7a4 24 = .ok (.iload_n 0, 1) := by decide +kernel
theorem dJ6_bitCount_0f7a4_25 : decode cJ6_bitCount_0f7a4 25 = .ok (.iload_n 0, 1) := by decide +kernel
theorem dJ6_bitCount_0f7a4_26 : decode cJ6_bitCount_0f7a4 26 = .ok (.iconst 4, 1) := by decide +kernel
theorem dJ6_bitCount_0f7a4_27 : decode cJ6_bitCount_0f7a4 27 = .ok (.iushr, 1) := by decide +kernel
theorem dJ6_bitCount_0f7a4_28 : decode cJ6_bitCount_0f7a4 28 = .ok (.iadd, 1) := by decide +kernel
theorem dJ6_bitCount_0f7a4_29 : decode cJ6_bitCount_0f7a4 29 = .ok (.ldc_w 267, 3) := by decide +kernel
theorem dJ6_bitCount_0f7a4_32 : decode cJ6_bitCount_0f7a4 32 = .ok (.iand, 1) := by decide +kernel
theorem dJ6_bitCount_0f7a4_33 : decode cJ6_bitCount_0f7a4 33 = .ok (.istore_n 0, 1) := by decide +kernel
theorem dJ6_bitCount_0f7a4_34 : decode cJ6_bitCount_0f7a4 34 = .ok (.iload_n 0, 1) := by decide +kernel
theorem dJ6_bitCount_0f7a4_35 : decode cJ6_bitCount_0f7a4 35 = .ok (.iload_n 0, 1) := by decide +kernel
theorem dJ6_bitCount_0f7a4_36 : decode cJ6_bitCount_0f7a4 36 = .ok (.bipush 8, 2) := by decide +kernel
theorem dJ6_bitCount_0f7a4_38 : decode cJ6_bitCount_0f7a4 38 = .ok (.iushr, 1) := by decide +kernel
theorem dJ6_bitCount_0f7a4_39 : decode cJ6_bitCount_0f7a4 39 = .ok (.iadd, 1) := by decide +kernel
theorem dJ6_bitCount_0f7a4_40 : decode cJ6_bitCount_0f7a4 40 = .ok (.istore_n 0, 1) := by decide +kernel
theorem dJ6_bitCount_0f7a4_41 : decode cJ6_bitCount_0f7a4 41 = .ok (.iload_n 0, 1) := by decide +kernel
theorem dJ6_bitCount_0f7a4_42 : decode cJ6_bitCount_0f7a4 42 = .ok (.iload_n 0, 1) := by decide +kernel
theorem dJ6_bitCount_0f7a4_43 : decode cJ6_bitCount_0f7a4 43 = .ok (.bipush 16, 2) := by decide +kernel
theorem dJ6_bitCount_0f7a4_45 : decode cJ6_bitCount_0f7a4 45 = .ok (.iushr, 1) := by decide +kernel
theorem dJ6_bitCount_0f7a4_46 : decode cJ6_bitCount_0f7a4 46 = .ok (.iadd, 1) := by decide +kernel
theorem dJ6_bitCount_0f7a4_47 : decode cJ6_bitCount_0f7a4 47 = .ok (.istore_n 0, 1) := by decide +kernel
theorem dJ6_bitCount_0f7a4_48 : decode cJ6_bitCount_0f7a4 48 = .ok (.iload_n 0, 1) := by decide +kernel
theorem dJ6_bitCount_0f7a4_49 : decode cJ6_bitCount_0f7a4 49 = .ok (.bipush 63, 2) := by decide +kernel
theorem dJ6_bitCount_0f7a4_51 : decode cJ6_bitCount_0f7a4 51 = .ok (.iand, 1) := by decide +kernel
theorem dJ6_bitCount_0f7a4_52 : decode cJ6_bitCount_0f7a4 52 = .ok (.ireturn, 1) := by decide +kernel
theorem dJ9_max_7cf53_0 : decode cJ9_max_7cf53 0 = .ok (.iload_n 0, 1) := by decide +kernel
theorem dJ9_max_7cf53_1 : decode cJ9_max_7cf53 1 = .ok (.iload_n 1, 1) := by decide +kernel
theorem dJ9_max_7cf53_2 : decode cJ9_max_7cf53 2 = .ok (.if_icmp .lt 7, 3) := by decide +kernel
theorem dJ9_max_7cf53_5 : decode cJ9_max_7cf53 5 = .ok (.iload_n 0, 1) := by decide +kernel
theorem dJ9_max_7cf53_6 : decode cJ9_max_7cf53 6 = .ok (.goto 4, 3) := by decide +kernel
theorem dJ9_max_7cf53_9 : decode cJ9_max_7cf53 9 = .ok (.iload_n 1, 1) := by decide +kernel
theorem dJ9_max_7cf53_10 : decode cJ9_max_7cf53 10 = .ok (.ireturn, 1) := by decide +kernel
theorem dJ7_fill_53178_0 : decode cJ7_fill_53178 0 = .ok (.iconst 0, 1) := by decide +kernel
theorem dJ7_fill_53178_1 : decode cJ7_fill_53178 1 = .ok (.istore_n 2, 1) := by decide +kernel
theorem dJ7_fill_53178_2 : decode cJ7_fill_53178 2 = .ok (.aload_n 0, 1) := by decide +kernel
theorem dJ7_fill_53178_3 : decode cJ7_fill_53178 3 = .ok (.arraylength, 1) := by decide +kernel
theorem dJ7_fill_53178_4 : decode cJ7_fill_53178 4 = .ok (.istore_n 3, 1) := by decide +kernel
theorem dJ7_fill_53178_5 : decode cJ7_fill_53178 5 = .ok (.iload_n 2, 1) := by decide +kernel
theorem dJ7_fill_53178_6 : decode cJ7_fill_53178 6 = .ok (.iload_n 3, 1) := by decide +kernel
theorem dJ7_fill_53178_7 : decode cJ7_fill_53178 7 = .ok (.if_icmp .ge 13, 3) := by decide +kernel
theorem dJ7_fill_53178_10 : decode cJ7_fill_53178 10 = .ok (.aload_n 0, 1) := by decide +kernel
theorem dJ7_fill_53178_11 : decode cJ7_fill_53178 11 = .ok (.iload_n 2, 1) := by decide +kernel
theorem dJ7_fill_53178_12 : decode cJ7_fill_53178 12 = .ok (.iload_n 1, 1) := by decide +kernel
theorem dJ7_fill_53178_13 : decode cJ7_fill_53178 13 = .ok (.iastore, 1) := by decide +kernel
theorem dJ7_fill_53178_14 : decode cJ7_fill_53178 14 = .ok (.iinc 2 1, 3) := by decide +kernel
theorem dJ7_fill_53178_17 : decode cJ7_fill_53178 17 = .ok (.goto (-12), 3) := by decide +kernel
theorem dJ7_fill_53178_20 : decode cJ7_fill_53178 20 = .ok (.return_, 1) := by decide +kernel
