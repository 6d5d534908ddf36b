/-! decode rows, as printed -/
theorem dX6_round_40 : decode cX6_round 40 = .ok (.iload_n 2, 1) := by decide +kernel
theorem dX6_round_41 : decode cX6_round 41 = .ok (.iload_n 3, 1) := by decide +kernel
theorem dX6_round_42 : decode cX6_round 42 = .ok (.invokevirtual 209, 3) := by decide +kernel
theorem dX6_round_45 : decode cX6_round 45 = .ok (.ireturn, 1) := by decide +kernel
theorem dX6_covered_0 : decode cX6_covered 0 = .ok (.iload_n 1, 1) := by decide +kernel
theorem dX6_covered_1 : decode cX6_covered 1 = .ok (.ifCond .lt 9, 3) := by decide +kernel
theorem dX6_covered_4 : decode cX6_covered 4 = .ok (.iload_n 1, 1) := by decide +kernel
theorem dX6_covered_5 : decode cX6_covered 5 = .ok (.bipush 7, 2) := by decide +kernel
theorem dX6_covered_7 : decode cX6_covered 7 = .ok (.if_icmp .le 5, 3) := by decide +kernel
theorem dX6_covered_10 : decode cX6_covered 10 = .ok (.iconst (-1), 1) := by decide +kernel
theorem dX6_covered_11 : decode cX6_covered 11 = .ok (.ireturn, 1) := by decide +kernel
theorem dX6_covered_12 : decode cX6_covered 12 = .ok (.aload_n 0, 1) := by decide +kernel
theorem dX6_covered_13 : decode cX6_covered 13 = .ok (.getfield 10, 3) := by decide +kernel
theorem dX6_covered_16 : decode cX6_covered 16 = .ok (.invokevirtual 105, 3) := by decide +kernel
theorem dX6_covered_19 : decode cX6_covered 19 = .ok (.iconst 0, 1) := by decide +kernel
theorem dX6_covered_20 : decode cX6_covered 20 = .ok (.istore_n 2, 1) := by decide +kernel
theorem dX6_covered_21 : decode cX6_covered 21 = .ok (.iconst 0, 1) := by decide +kernel
theorem dX6_covered_22 : decode cX6_covered 22 = .ok (.istore_n 3, 1) := by decide +kernel
theorem dX6_covered_23 : decode cX6_covered 23 = .ok (.iload_n 3, 1) := by decide +kernel
theorem dX6_covered_24 : decode cX6_covered 24 = .ok (.aload_n 0, 1) := by decide +kernel
theorem dX6_covered_25 : decode cX6_covered 25 = .ok (.getfield 10, 3) := by decide +kernel
theorem dX6_covered_28 : decode cX6_covered 28 = .ok (.getfield 212, 3) := by decide +kernel
theorem dX6_covered_31 : decode cX6_covered 31 = .ok (.if_icmp .ge 32, 3) := by decide +kernel
theorem dX6_covered_34 : decode cX6_covered 34 = .ok (.iload_n 2, 1) := by decide +kernel
theorem dX6_covered_35 : decode cX6_covered 35 = .ok (.iload_n 1, 1) := by decide +kernel
theorem dX6_covered_36 : decode cX6_covered 36 = .ok (.bipush 7, 2) := by decide +kernel
theorem dX6_covered_38 : decode cX6_covered 38 = .ok (.if_icmp .ne 11, 3) := by decide +kernel
theorem dX6_covered_41 : decode cX6_covered 41 = .ok (.aload_n 0, 1) := by decide +kernel
theorem dX6_covered_42 : decode cX6_covered 42 = .ok (.iload_n 3, 1) := by decide +kernel
theorem dX6_covered_43 : decode cX6_covered 43 = .ok (.invokevirtual 215, 3) := by decide +kernel
theorem dX6_covered_46 : decode cX6_covered 46 = .ok (.goto 9, 3) := by decide +kernel
theorem dX6_covered_49 : decode cX6_covered 49 = .ok (.aload_n 0, 1) := by decide +kernel
theorem dX6_covered_50 : decode cX6_covered 50 = .ok (.iload_n 3, 1) := by decide +kernel
theorem dX6_covered_51 : decode cX6_covered 51 = .ok (.iload_n 1, 1) := by decide +kernel
theorem dX6_covered_52 : decode cX6_covered 52 = .ok (.invokevirtual 218, 3) := by decide +kernel
theorem dX6_covered_55 : decode cX6_covered 55 = .ok (.iadd, 1) := by decide +kernel
theorem dX6_covered_56 : decode cX6_covered 56 = .ok (.istore_n 2, 1) := by decide +kernel
theorem dX6_covered_57 : decode cX6_covered 57 = .ok (.iinc 3 1, 3) := by decide +kernel
theorem dX6_covered_60 : decode cX6_covered 60 = .ok (.goto (-37), 3) := by decide +kernel
theorem dX6_covered_63 : decode cX6_covered 63 = .ok (.iload_n 2, 1) := by decide +kernel
theorem dX6_covered_64 : decode cX6_covered 64 = .ok (.ireturn, 1) := by decide +kernel
theorem dX6_cut_0 : decode cX6_cut 0 = .ok (.aload_n 0, 1) := by decide +kernel
theorem dX6_cut_1 : decode cX6_cut 1 = .ok (.getfield 10, 3) := by decide +kernel
theorem dX6_cut_4 : decode cX6_cut 4 = .ok (.iload_n 1, 1) := by decide +kernel
theorem dX6_cut_5 : decode cX6_cut 5 = .ok (.iload_n 2, 1) := by decide +kernel
theorem dX6_cut_6 : decode cX6_cut 6 = .ok (.invokevirtual 63, 3) := by decide +kernel
theorem dX6_cut_9 : decode cX6_cut 9 = .ok (.ifCond .eq 19, 3) := by decide +kernel
theorem dX6_cut_12 : decode cX6_cut 12 = .ok (.aload_n 0, 1) := by decide +kernel
theorem dX6_cut_13 : decode cX6_cut 13 = .ok (.getfield 47, 3) := by decide +kernel
theorem dX6_cut_16 : decode cX6_cut 16 = .ok (.aload_n 0, 1) := by decide +kernel
theorem dX6_cut_17 : decode cX6_cut 17 = .ok (.getfield 10, 3) := by decide +kernel
theorem dX6_cut_20 : decode cX6_cut 20 = .ok (.iload_n 1, 1) := by decide +kernel
theorem dX6_cut_21 : decode cX6_cut 21 = .ok (.iload_n 2, 1) := by decide +kernel
theorem dX6_cut_22 : decode cX6_cut 22 = .ok (.invokevirtual 221, 3) := by decide +kernel
theorem dX6_cut_25 : decode cX6_cut 25 = .ok (.goto 4, 3) := by decide +kernel
theorem dX6_cut_28 : decode cX6_cut 28 = .ok (.iconst (-1), 1) := by decide +kernel
theorem dX6_cut_29 : decode cX6_cut 29 = .ok (.ireturn, 1) := by decide +kernel
theorem dX6_spare_0 : decode cX6_spare 0 = .ok (.aload_n 0, 1) := by decide +kernel
theorem dX6_spare_1 : decode cX6_spare 1 = .ok (.getfield 10, 3) := by decide +kernel
theorem dX6_spare_4 : decode cX6_spare 4 = .ok (.iload_n 1, 1) := by decide +kernel
theorem dX6_spare_5 : decode cX6_spare 5 = .ok (.iload_n 2, 1) := by decide +kernel
theorem dX6_spare_6 : decode cX6_spare 6 = .ok (.invokevirtual 63, 3) := by decide +kernel
theorem dX6_spare_9 : decode cX6_spare 9 = .ok (.ifCond .ne 5, 3) := by decide +kernel
theorem dX6_spare_12 : decode cX6_spare 12 = .ok (.iconst (-1), 1) := by decide +kernel
theorem dX6_spare_13 : decode cX6_spare 13 = .ok (.ireturn, 1) := by decide +kernel
theorem dX6_spare_14 : decode cX6_spare 14 = .ok (.aload_n 0, 1) := by decide +kernel
theorem dX6_spare_15 : decode cX6_spare 15 = .ok (.getfield 10, 3) := by decide +kernel
theorem dX6_spare_18 : decode cX6_spare 18 = .ok (.invokevirtual 105, 3) := by decide +kernel
theorem dX6_spare_21 : decode cX6_spare 21 = .ok (.aload_n 0, 1) := by decide +kernel
theorem dX6_spare_22 : decode cX6_spare 22 = .ok (.getfield 40, 3) := by decide +kernel
theorem dX6_spare_25 : decode cX6_spare 25 = .ok (.aload_n 0, 1) := by decide +kernel
theorem dX6_spare_26 : decode cX6_spare 26 = .ok (.getfield 10, 3) := by decide +kernel
theorem dX6_spare_29 : decode cX6_spare 29 = .ok (.iload_n 1, 1) := by decide +kernel
theorem dX6_spare_30 : decode cX6_spare 30 = .ok (.iload_n 2, 1) := by decide +kernel
theorem dX6_spare_31 : decode cX6_spare 31 = .ok (.invokevirtual 224, 3) := by decide +kernel
theorem dX6_spare_34 : decode cX6_spare 34 = .ok (.invokestatic 119, 3) := by decide +kernel
theorem dX6_spare_37 : decode cX6_spare 37 = .ok (.ireturn, 1) := by decide +kernel
theorem dX6_centre_0 : decode cX6_centre 0 = .ok (.aload_n 0, 1) := by decide +kernel
theorem dX6_centre_1 : decode cX6_centre 1 = .ok (.getfield 10, 3) := by decide +kernel
theorem dX6_centre_4 : decode cX6_centre 4 = .ok (.invokevirtual 105, 3) := by decide +kernel
theorem dX6_centre_7 : decode cX6_centre 7 = .ok (.iconst (-1), 1) := by decide +kernel
theorem dX6_centre_8 : decode cX6_centre 8 = .ok (.istore_n 1, 1) := by decide +kernel
theorem dX6_centre_9 : decode cX6_centre 9 = .ok (.ldc 227, 2) := by decide +kernel
theorem dX6_centre_11 : decode cX6_centre 11 = .ok (.istore_n 2, 1) := by decide +kernel
theorem dX6_centre_12 : decode cX6_centre 12 = .ok (.iconst 0, 1) := by decide +kernel
theorem dX6_centre_13 : decode cX6_centre 13 = .ok (.istore_n 3, 1) := by decide +kernel
theorem dX6_centre_14 : decode cX6_centre 14 = .ok (.iload_n 3, 1) := by decide +kernel
theorem dX6_centre_15 : decode cX6_centre 15 = .ok (.aload_n 0, 1) := by decide +kernel
theorem dX6_centre_16 : decode cX6_centre 16 = .ok (.getfield 10, 3) := by decide +kernel
theorem dX6_centre_19 : decode cX6_centre 19 = .ok (.getfield 212, 3) := by decide +kernel
theorem dX6_centre_22 : decode cX6_centre 22 = .ok (.if_icmp .ge 39, 3) := by decide +kernel
theorem dX6_centre_25 : decode cX6_centre 25 = .ok (.aload_n 0, 1) := by decide +kernel
theorem dX6_centre_26 : decode cX6_centre 26 = .ok (.getfield 10, 3) := by decide +kernel
theorem dX6_centre_29 : decode cX6_centre 29 = .ok (.iload_n 3, 1) := by decide +kernel
theorem dX6_centre_30 : decode cX6_centre 30 = .ok (.invokevirtual 228, 3) := by decide +kernel
theorem dX6_centre_33 : decode cX6_centre 33 = .ok (.istore 4, 2) := by decide +kernel
theorem dX6_centre_35 : decode cX6_centre 35 = .ok (.iload 4, 2) := by decide +kernel
theorem dX6_centre_37 : decode cX6_centre 37 = .ok (.ldc 227, 2) := by decide +kernel
theorem dX6_centre_39 : decode cX6_centre 39 = .ok (.if_icmp .lt 5, 3) := by decide +kernel
theorem dX6_centre_42 : decode cX6_centre 42 = .ok (.iconst (-1), 1) := by decide +kernel
theorem dX6_centre_43 : decode cX6_centre 43 = .ok (.ireturn, 1) := by decide +kernel
theorem dX6_centre_44 : decode cX6_centre 44 = .ok (.iload 4, 2) := by decide +kernel
theorem dX6_centre_46 : decode cX6_centre 46 = .ok (.iload_n 2, 1) := by decide +kernel
theorem dX6_centre_47 : decode cX6_centre 47 = .ok (.if_icmp .ge 8, 3) := by decide +kernel
theorem dX6_centre_50 : decode cX6_centre 50 = .ok (.iload 4, 2) := by decide +kernel
theorem dX6_centre_52 : decode cX6_centre 52 = .ok (.istore_n 2, 1) := by decide +kernel
theorem dX6_centre_53 : decode cX6_centre 53 = .ok (.iload_n 3, 1) := by decide +kernel
theorem dX6_centre_54 : decode cX6_centre 54 = .ok (.istore_n 1, 1) := by decide +kernel
theorem dX6_centre_55 : decode cX6_centre 55 = .ok (.iinc 3 1, 3) := by decide +kernel
theorem dX6_centre_58 : decode cX6_centre 58 = .ok (.goto (-44), 3) := by decide +kernel
theorem dX6_centre_61 : decode cX6_centre 61 = .ok (.iload_n 1, 1) := by decide +kernel
theorem dX6_centre_62 : decode cX6_centre 62 = .ok (.ireturn, 1) := by decide +kernel
theorem dX6_count_0 : decode cX6_count 0 = .ok (.iload_n 1, 1) := by decide +kernel
theorem dX6_count_1 : decode cX6_count 1 = .ok (.tableswitch 94 0 5 #[39, 47, 55, 63, 71, 86], 39) := by decide +kernel
theorem dX6_count_40 : decode cX6_count 40 = .ok (.aload_n 0, 1) := by decide +kernel
theorem dX6_count_41 : decode cX6_count 41 = .ok (.getfield 10, 3) := by decide +kernel
theorem dX6_count_44 : decode cX6_count 44 = .ok (.getfield 212, 3) := by decide +kernel
theorem dX6_count_47 : decode cX6_count 47 = .ok (.ireturn, 1) := by decide +kernel
theorem dX6_count_48 : decode cX6_count 48 = .ok (.aload_n 0, 1) := by decide +kernel
theorem dX6_count_49 : decode cX6_count 49 = .ok (.getfield 10, 3) := by decide +kernel
theorem dX6_count_52 : decode cX6_count 52 = .ok (.getfield 51, 3) := by decide +kernel
theorem dX6_count_55 : decode cX6_count 55 = .ok (.ireturn, 1) := by decide +kernel
theorem dX6_count_56 : decode cX6_count 56 = .ok (.aload_n 0, 1) := by decide +kernel
theorem dX6_count_57 : decode cX6_count 57 = .ok (.getfield 19, 3) := by decide +kernel
theorem dX6_count_60 : decode cX6_count 60 = .ok (.getfield 231, 3) := by decide +kernel
theorem dX6_count_63 : decode cX6_count 63 = .ok (.ireturn, 1) := by decide +kernel
theorem dX6_count_64 : decode cX6_count 64 = .ok (.aload_n 0, 1) := by decide +kernel
theorem dX6_count_65 : decode cX6_count 65 = .ok (.getfield 19, 3) := by decide +kernel
theorem dX6_count_68 : decode cX6_count 68 = .ok (.getfield 234, 3) := by decide +kernel
theorem dX6_count_71 : decode cX6_count 71 = .ok (.ireturn, 1) := by decide +kernel
theorem dX6_count_72 : decode cX6_count 72 = .ok (.aload_n 0, 1) := by decide +kernel
theorem dX6_count_73 : decode cX6_count 73 = .ok (.getfield 19, 3) := by decide +kernel
theorem dX6_count_76 : decode cX6_count 76 = .ok (.aload_n 0, 1) := by decide +kernel
theorem dX6_count_77 : decode cX6_count 77 = .ok (.getfield 10, 3) := by decide +kernel
theorem dX6_count_80 : decode cX6_count 80 = .ok (.invokevirtual 170, 3) := by decide +kernel
theorem dX6_count_83 : decode cX6_count 83 = .ok (.invokestatic 237, 3) := by decide +kernel
theorem dX6_count_86 : decode cX6_count 86 = .ok (.ireturn, 1) := by decide +kernel
theorem dX6_count_87 : decode cX6_count 87 = .ok (.aload_n 0, 1) := by decide +kernel
theorem dX6_count_88 : decode cX6_count 88 = .ok (.getfield 10, 3) := by decide +kernel
theorem dX6_count_91 : decode cX6_count 91 = .ok (.invokevirtual 242, 3) := by decide +kernel
theorem dX6_count_94 : decode cX6_count 94 = .ok (.ireturn, 1) := by decide +kernel
theorem dX6_count_95 : decode cX6_count 95 = .ok (.iconst (-1), 1) := by decide +kernel
theorem dX6_count_96 : decode cX6_count 96 = .ok (.ireturn, 1) := by decide +kernel
theorem dX6_isCost_0 : decode cX6_isCost 0 = .ok (.iload_n 0, 1) := by decide +kernel
theorem dX6_isCost_1 : decode cX6_isCost 1 = .ok (.iconst 1, 1) := by decide +kernel
theorem dX6_isCost_2 : decode cX6_isCost 2 = .ok (.if_icmp .lt 13, 3) := by decide +kernel
theorem dX6_isCost_5 : decode cX6_isCost 5 = .ok (.iload_n 0, 1) := by decide +kernel
theorem dX6_isCost_6 : decode cX6_isCost 6 = .ok (.bipush 99, 2) := by decide +kernel
theorem dX6_isCost_8 : decode cX6_isCost 8 = .ok (.if_icmp .gt 7, 3) := by decide +kernel
theorem dX6_isCost_11 : decode cX6_isCost 11 = .ok (.iconst 1, 1) := by decide +kernel
theorem dX6_isCost_12 : decode cX6_isCost 12 = .ok (.goto 4, 3) := by decide +kernel
theorem dX6_isCost_15 : decode cX6_isCost 15 = .ok (.iconst 0, 1) := by decide +kernel
theorem dX6_isCost_16 : decode cX6_isCost 16 = .ok (.ireturn, 1) := by decide +kernel
theorem dX6_orNone_0 : decode cX6_orNone 0 = .ok (.iload_n 0, 1) := by decide +kernel
theorem dX6_orNone_1 : decode cX6_orNone 1 = .ok (.ldc 227, 2) := by decide +kernel
theorem dX6_orNone_3 : decode cX6_orNone 3 = .ok (.if_icmp .lt 7, 3) := by decide +kernel
theorem dX6_orNone_6 : decode cX6_orNone 6 = .ok (.iconst (-1), 1) := by decide +kernel
theorem dX6_orNone_7 : decode cX6_orNone 7 = .ok (.goto 4, 3) := by decide +kernel
theorem dX6_orNone_10 : decode cX6_orNone 10 = .ok (.iload_n 0, 1) := by decide +kernel
theorem dX6_orNone_11 : decode cX6_orNone 11 = .ok (.ireturn, 1) := by decide +kernel
theorem dX6_has_0 : decode cX6_has 0 = .ok (.iload_n 0, 1) := by decide +kernel
theorem dX6_has_1 : decode cX6_has 1 = .ok (.iload_n 1, 1) := by decide +kernel
theorem dX6_has_2 : decode cX6_has 2 = .ok (.ishr, 1) := by decide +kernel
theorem dX6_has_3 : decode cX6_has 3 = .ok (.iconst 1, 1) := by decide +kernel
theorem dX6_has_4 : decode cX6_has 4 = .ok (.iand, 1) := by decide +kernel
theorem dX6_has_5 : decode cX6_has 5 = .ok (.iconst 1, 1) := by decide +kernel
theorem dX6_has_6 : decode cX6_has 6 = .ok (.if_icmp .ne 7, 3) := by decide +kernel
theorem dX6_has_9 : decode cX6_has 9 = .ok (.iconst 1, 1) := by decide +kernel
theorem dX6_has_10 : decode cX6_has 10 = .ok (.goto 4, 3) := by decide +kernel
theorem dX6_has_13 : decode cX6_has 13 = .ok (.iconst 0, 1) := by decide +kernel
theorem dX6_has_14 : decode cX6_has 14 = .ok (.ireturn, 1) := by decide +kernel
theorem dX6_canBeDown_0 : decode cX6_canBeDown 0 = .ok (.iload_n 1, 1) := by decide +kernel
theorem dX6_canBeDown_1 : decode cX6_canBeDown 1 = .ok (.tableswitch 67 0 3 #[31, 33, 42, 51], 31) := by decide +kernel
theorem dX6_canBeDown_32 : decode cX6_canBeDown 32 = .ok (.iconst 1, 1) := by decide +kernel
theorem dX6_canBeDown_33 : decode cX6_canBeDown 33 = .ok (.ireturn, 1) := by decide +kernel
theorem dX6_canBeDown_34 : decode cX6_canBeDown 34 = .ok (.aload_n 0, 1) := by decide +kernel
theorem dX6_canBeDown_35 : decode cX6_canBeDown 35 = .ok (.getfield 10, 3) := by decide +kernel
theorem dX6_canBeDown_38 : decode cX6_canBeDown 38 = .ok (.iload_n 2, 1) := by decide +kernel
theorem dX6_canBeDown_39 : decode cX6_canBeDown 39 = .ok (.invokevirtual 79, 3) := by decide +kernel
theorem dX6_canBeDown_42 : decode cX6_canBeDown 42 = .ok (.ireturn, 1) := by decide +kernel
theorem dX6_canBeDown_43 : decode cX6_canBeDown 43 = .ok (.aload_n 0, 1) := by decide +kernel
theorem dX6_canBeDown_44 : decode cX6_canBeDown 44 = .ok (.getfield 10, 3) := by decide +kernel
theorem dX6_canBeDown_47 : decode cX6_canBeDown 47 = .ok (.iload_n 2, 1) := by decide +kernel
theorem dX6_canBeDown_48 : decode cX6_canBeDown 48 = .ok (.invokevirtual 112, 3) := by decide +kernel
theorem dX6_canBeDown_51 : decode cX6_canBeDown 51 = .ok (.ireturn, 1) := by decide +kernel
theorem dX6_canBeDown_52 : decode cX6_canBeDown 52 = .ok (.iload_n 2, 1) := by decide +kernel
theorem dX6_canBeDown_53 : decode cX6_canBeDown 53 = .ok (.ifCond .lt 13, 3) := by decide +kernel
theorem dX6_canBeDown_56 : decode cX6_canBeDown 56 = .ok (.iload_n 2, 1) := by decide +kernel
theorem dX6_canBeDown_57 : decode cX6_canBeDown 57 = .ok (.bipush 8, 2) := by decide +kernel
theorem dX6_canBeDown_59 : decode cX6_canBeDown 59 = .ok (.if_icmp .ge 7, 3) := by decide +kernel
theorem dX6_canBeDown_62 : decode cX6_canBeDown 62 = .ok (.iconst 1, 1) := by decide +kernel
theorem dX6_canBeDown_63 : decode cX6_canBeDown 63 = .ok (.goto 4, 3) := by decide +kernel
theorem dX6_canBeDown_66 : decode cX6_canBeDown 66 = .ok (.iconst 0, 1) := by decide +kernel
theorem dX6_canBeDown_67 : decode cX6_canBeDown 67 = .ok (.ireturn, 1) := by decide +kernel
theorem dX6_canBeDown_68 : decode cX6_canBeDown 68 = .ok (.iconst 0, 1) := by decide +kernel
theorem dX6_canBeDown_69 : decode cX6_canBeDown 69 = .ok (.ireturn, 1) := by decide +kernel
theorem dX6_canSend_0 : decode cX6_canSend 0 = .ok (.aload_n 0, 1) := by decide +kernel
theorem dX6_canSend_1 : decode cX6_canSend 1 = .ok (.getfield 10, 3) := by decide +kernel
theorem dX6_canSend_4 : decode cX6_canSend 4 = .ok (.iload_n 1, 1) := by decide +kernel
theorem dX6_canSend_5 : decode cX6_canSend 5 = .ok (.iload_n 2, 1) := by decide +kernel
theorem dX6_canSend_6 : decode cX6_canSend 6 = .ok (.invokevirtual 63, 3) := by decide +kernel
theorem dX6_canSend_9 : decode cX6_canSend 9 = .ok (.ifCond .eq 29, 3) := by decide +kernel
theorem dX6_canSend_12 : decode cX6_canSend 12 = .ok (.aload_n 0, 1) := by decide +kernel
theorem dX6_canSend_13 : decode cX6_canSend 13 = .ok (.getfield 19, 3) := by decide +kernel
theorem dX6_canSend_16 : decode cX6_canSend 16 = .ok (.iload_n 1, 1) := by decide +kernel
theorem dX6_canSend_17 : decode cX6_canSend 17 = .ok (.invokevirtual 246, 3) := by decide +kernel
theorem dX6_canSend_20 : decode cX6_canSend 20 = .ok (.ifCond .ne 18, 3) := by decide +kernel
theorem dX6_canSend_23 : decode cX6_canSend 23 = .ok (.aload_n 0, 1) := by decide +kernel
theorem dX6_canSend_24 : decode cX6_canSend 24 = .ok (.getfield 19, 3) := by decide +kernel
theorem dX6_canSend_27 : decode cX6_canSend 27 = .ok (.iload_n 2, 1) := by decide +kernel
theorem dX6_canSend_28 : decode cX6_canSend 28 = .ok (.invokevirtual 246, 3) := by decide +kernel
theorem dX6_canSend_31 : decode cX6_canSend 31 = .ok (.ifCond .ne 7, 3) := by decide +kernel
theorem dX6_canSend_34 : decode cX6_canSend 34 = .ok (.iconst 1, 1) := by decide +kernel
theorem dX6_canSend_35 : decode cX6_canSend 35 = .ok (.goto 4, 3) := by decide +kernel
theorem dX6_canSend_38 : decode cX6_canSend 38 = .ok (.iconst 0, 1) := by decide +kernel
theorem dX6_canSend_39 : decode cX6_canSend 39 = .ok (.ireturn, 1) := by decide +kernel
theorem dX6_sendersOfKind_0 : decode cX6_sendersOfKind 0 = .ok (.iconst 0, 1) := by decide +kernel
theorem dX6_sendersOfKind_1 : decode cX6_sendersOfKind 1 = .ok (.istore_n 3, 1) := by decide +kernel
theorem dX6_sendersOfKind_2 : decode cX6_sendersOfKind 2 = .ok (.iconst 0, 1) := by decide +kernel
theorem dX6_sendersOfKind_3 : decode cX6_sendersOfKind 3 = .ok (.istore 4, 2) := by decide +kernel
theorem dX6_sendersOfKind_5 : decode cX6_sendersOfKind 5 = .ok (.iload 4, 2) := by decide +kernel
theorem dX6_sendersOfKind_7 : decode cX6_sendersOfKind 7 = .ok (.aload_n 0, 1) := by decide +kernel
theorem dX6_sendersOfKind_8 : decode cX6_sendersOfKind 8 = .ok (.getfield 10, 3) := by decide +kernel
theorem dX6_sendersOfKind_11 : decode cX6_sendersOfKind 11 = .ok (.getfield 212, 3) := by decide +kernel
theorem dX6_sendersOfKind_14 : decode cX6_sendersOfKind 14 = .ok (.if_icmp .ge 37, 3) := by decide +kernel
theorem dX6_sendersOfKind_17 : decode cX6_sendersOfKind 17 = .ok (.aload_n 0, 1) := by decide +kernel
theorem dX6_sendersOfKind_18 : decode cX6_sendersOfKind 18 = .ok (.getfield 26, 3) := by decide +kernel
theorem dX6_sendersOfKind_21 : decode cX6_sendersOfKind 21 = .ok (.aload_n 0, 1) := by decide +kernel
theorem dX6_sendersOfKind_22 : decode cX6_sendersOfKind 22 = .ok (.getfield 10, 3) := by decide +kernel
theorem dX6_sendersOfKind_25 : decode cX6_sendersOfKind 25 = .ok (.iload 4, 2) := by decide +kernel
theorem dX6_sendersOfKind_27 : decode cX6_sendersOfKind 27 = .ok (.iload_n 1, 1) := by decide +kernel
theorem dX6_sendersOfKind_28 : decode cX6_sendersOfKind 28 = .ok (.invokevirtual 132, 3) := by decide +kernel
theorem dX6_sendersOfKind_31 : decode cX6_sendersOfKind 31 = .ok (.ifCond .eq 14, 3) := by decide +kernel
theorem dX6_sendersOfKind_34 : decode cX6_sendersOfKind 34 = .ok (.aload_n 0, 1) := by decide +kernel
theorem dX6_sendersOfKind_35 : decode cX6_sendersOfKind 35 = .ok (.iload_n 2, 1) := by decide +kernel
theorem dX6_sendersOfKind_36 : decode cX6_sendersOfKind 36 = .ok (.invokevirtual 249, 3) := by decide +kernel
theorem dX6_sendersOfKind_39 : decode cX6_sendersOfKind 39 = .ok (.ifCond .eq 6, 3) := by decide +kernel
theorem dX6_sendersOfKind_42 : decode cX6_sendersOfKind 42 = .ok (.iinc 3 1, 3) := by decide +kernel
theorem dX6_sendersOfKind_45 : decode cX6_sendersOfKind 45 = .ok (.iinc 4 1, 3) := by decide +kernel
theorem dX6_sendersOfKind_48 : decode cX6_sendersOfKind 48 = .ok (.goto (-43), 3) := by decide +kernel
theorem dX6_sendersOfKind_51 : decode cX6_sendersOfKind 51 = .ok (.iload_n 3, 1) := by decide +kernel
theorem dX6_sendersOfKind_52 : decode cX6_sendersOfKind 52 = .ok (.ireturn, 1) := by decide +kernel
theorem dX6_isOfKind_0 : decode cX6_isOfKind 0 = .ok (.iload_n 1, 1) := by decide +kernel
theorem dX6_isOfKind_1 : decode cX6_isOfKind 1 = .ok (.tableswitch 112 0 6 #[43, 45, 45, 45, 66, 86, 99], 43) := by decide +kernel
theorem dX6_isOfKind_44 : decode cX6_isOfKind 44 = .ok (.iconst 1, 1) := by decide +kernel
theorem dX6_isOfKind_45 : decode cX6_isOfKind 45 = .ok (.ireturn, 1) := by decide +kernel
theorem dX6_isOfKind_46 : decode cX6_isOfKind 46 = .ok (.aload_n 0, 1) := by decide +kernel
theorem dX6_isOfKind_47 : decode cX6_isOfKind 47 = .ok (.getfield 26, 3) := by decide +kernel
theorem dX6_isOfKind_50 : decode cX6_isOfKind 50 = .ok (.aload_n 0, 1) := by decide +kernel
theorem dX6_isOfKind_51 : decode cX6_isOfKind 51 = .ok (.getfield 10, 3) := by decide +kernel
theorem dX6_isOfKind_54 : decode cX6_isOfKind 54 = .ok (.invokevirtual 164, 3) := by decide +kernel
theorem dX6_isOfKind_57 : decode cX6_isOfKind 57 = .ok (.iload_n 1, 1) := by decide +kernel
theorem dX6_isOfKind_58 : decode cX6_isOfKind 58 = .ok (.if_icmp .ne 7, 3) := by decide +kernel
theorem dX6_isOfKind_61 : decode cX6_isOfKind 61 = .ok (.iconst 1, 1) := by decide +kernel
theorem dX6_isOfKind_62 : decode cX6_isOfKind 62 = .ok (.goto 4, 3) := by decide +kernel
theorem dX6_isOfKind_65 : decode cX6_isOfKind 65 = .ok (.iconst 0, 1) := by decide +kernel
theorem dX6_isOfKind_66 : decode cX6_isOfKind 66 = .ok (.ireturn, 1) := by decide +kernel
theorem dX6_isOfKind_67 : decode cX6_isOfKind 67 = .ok (.aload_n 0, 1) := by decide +kernel
theorem dX6_isOfKind_68 : decode cX6_isOfKind 68 = .ok (.getfield 26, 3) := by decide +kernel
theorem dX6_isOfKind_71 : decode cX6_isOfKind 71 = .ok (.aload_n 0, 1) := by decide +kernel
theorem dX6_isOfKind_72 : decode cX6_isOfKind 72 = .ok (.getfield 10, 3) := by decide +kernel
theorem dX6_isOfKind_75 : decode cX6_isOfKind 75 = .ok (.invokevirtual 164, 3) := by decide +kernel
theorem dX6_isOfKind_78 : decode cX6_isOfKind 78 = .ok (.ifCond .ne 7, 3) := by decide +kernel
theorem dX6_isOfKind_81 : decode cX6_isOfKind 81 = .ok (.iconst 1, 1) := by decide +kernel
theorem dX6_isOfKind_82 : decode cX6_isOfKind 82 = .ok (.goto 4, 3) := by decide +kernel
theorem dX6_isOfKind_85 : decode cX6_isOfKind 85 = .ok (.iconst 0, 1) := by decide +kernel
theorem dX6_isOfKind_86 : decode cX6_isOfKind 86 = .ok (.ireturn, 1) := by decide +kernel
theorem dX6_isOfKind_87 : decode cX6_isOfKind 87 = .ok (.aload_n 0, 1) := by decide +kernel
theorem dX6_isOfKind_88 : decode cX6_isOfKind 88 = .ok (.getfield 26, 3) := by decide +kernel
theorem dX6_isOfKind_91 : decode cX6_isOfKind 91 = .ok (.aload_n 0, 1) := by decide +kernel
theorem dX6_isOfKind_92 : decode cX6_isOfKind 92 = .ok (.getfield 10, 3) := by decide +kernel
theorem dX6_isOfKind_95 : decode cX6_isOfKind 95 = .ok (.iconst 2, 1) := by decide +kernel
theorem dX6_isOfKind_96 : decode cX6_isOfKind 96 = .ok (.invokevirtual 252, 3) := by decide +kernel
theorem dX6_isOfKind_99 : decode cX6_isOfKind 99 = .ok (.ireturn, 1) := by decide +kernel
theorem dX6_isOfKind_100 : decode cX6_isOfKind 100 = .ok (.aload_n 0, 1) := by decide +kernel
theorem dX6_isOfKind_101 : decode cX6_isOfKind 101 = .ok (.getfield 26, 3) := by decide +kernel
theorem dX6_isOfKind_104 : decode cX6_isOfKind 104 = .ok (.aload_n 0, 1) := by decide +kernel
theorem dX6_isOfKind_105 : decode cX6_isOfKind 105 = .ok (.getfield 10, 3) := by decide +kernel
theorem dX6_isOfKind_108 : decode cX6_isOfKind 108 = .ok (.iconst 3, 1) := by decide +kernel
theorem dX6_isOfKind_109 : decode cX6_isOfKind 109 = .ok (.invokevirtual 252, 3) := by decide +kernel
theorem dX6_isOfKind_112 : decode cX6_isOfKind 112 = .ok (.ireturn, 1) := by decide +kernel
theorem dX6_isOfKind_113 : decode cX6_isOfKind 113 = .ok (.iconst 0, 1) := by decide +kernel
theorem dX6_isOfKind_114 : decode cX6_isOfKind 114 = .ok (.ireturn, 1) := by decide +kernel
theorem dX6_safeSenders_0 : decode cX6_safeSenders 0 = .ok (.iconst 0, 1) := by decide +kernel
theorem dX6_safeSenders_1 : decode cX6_safeSenders 1 = .ok (.istore_n 2, 1) := by decide +kernel
theorem dX6_safeSenders_2 : decode cX6_safeSenders 2 = .ok (.iconst 0, 1) := by decide +kernel
theorem dX6_safeSenders_3 : decode cX6_safeSenders 3 = .ok (.istore_n 3, 1) := by decide +kernel
theorem dX6_safeSenders_4 : decode cX6_safeSenders 4 = .ok (.iload_n 3, 1) := by decide +kernel
theorem dX6_safeSenders_5 : decode cX6_safeSenders 5 = .ok (.aload_n 0, 1) := by decide +kernel
theorem dX6_safeSenders_6 : decode cX6_safeSenders 6 = .ok (.getfield 10, 3) := by decide +kernel
theorem dX6_safeSenders_9 : decode cX6_safeSenders 9 = .ok (.getfield 212, 3) := by decide +kernel
theorem dX6_safeSenders_12 : decode cX6_safeSenders 12 = .ok (.if_icmp .ge 75, 3) := by decide +kernel
theorem dX6_safeSenders_15 : decode cX6_safeSenders 15 = .ok (.aload_n 0, 1) := by decide +kernel
theorem dX6_safeSenders_16 : decode cX6_safeSenders 16 = .ok (.getfield 10, 3) := by decide +kernel
theorem dX6_safeSenders_19 : decode cX6_safeSenders 19 = .ok (.iload_n 3, 1) := by decide +kernel
theorem dX6_safeSenders_20 : decode cX6_safeSenders 20 = .ok (.aload_n 0, 1) := by decide +kernel
theorem dX6_safeSenders_21 : decode cX6_safeSenders 21 = .ok (.getfield 10, 3) := by decide +kernel
theorem dX6_safeSenders_24 : decode cX6_safeSenders 24 = .ok (.iload_n 3, 1) := by decide +kernel
theorem dX6_safeSenders_25 : decode cX6_safeSenders 25 = .ok (.iload_n 1, 1) := by decide +kernel
theorem dX6_safeSenders_26 : decode cX6_safeSenders 26 = .ok (.invokevirtual 123, 3) := by decide +kernel
theorem dX6_safeSenders_29 : decode cX6_safeSenders 29 = .ok (.invokevirtual 71, 3) := by decide +kernel
theorem dX6_safeSenders_32 : decode cX6_safeSenders 32 = .ok (.istore 4, 2) := by decide +kernel
theorem dX6_safeSenders_34 : decode cX6_safeSenders 34 = .ok (.iload 4, 2) := by decide +kernel
theorem dX6_safeSenders_36 : decode cX6_safeSenders 36 = .ok (.iconst (-1), 1) := by decide +kernel
theorem dX6_safeSenders_37 : decode cX6_safeSenders 37 = .ok (.if_icmp .eq 44, 3) := by decide +kernel
theorem dX6_safeSenders_40 : decode cX6_safeSenders 40 = .ok (.aload_n 0, 1) := by decide +kernel
theorem dX6_safeSenders_41 : decode cX6_safeSenders 41 = .ok (.getfield 33, 3) := by decide +kernel
theorem dX6_safeSenders_44 : decode cX6_safeSenders 44 = .ok (.aload_n 0, 1) := by decide +kernel
theorem dX6_safeSenders_45 : decode cX6_safeSenders 45 = .ok (.getfield 10, 3) := by decide +kernel
theorem dX6_safeSenders_48 : decode cX6_safeSenders 48 = .ok (.aload_n 0, 1) := by decide +kernel
theorem dX6_safeSenders_49 : decode cX6_safeSenders 49 = .ok (.getfield 26, 3) := by decide +kernel
theorem dX6_safeSenders_52 : decode cX6_safeSenders 52 = .ok (.iconst 1, 1) := by decide +kernel
theorem dX6_safeSenders_53 : decode cX6_safeSenders 53 = .ok (.iload 4, 2) := by decide +kernel
theorem dX6_safeSenders_55 : decode cX6_safeSenders 55 = .ok (.ishl, 1) := by decide +kernel
theorem dX6_safeSenders_56 : decode cX6_safeSenders 56 = .ok (.iload_n 3, 1) := by decide +kernel
theorem dX6_safeSenders_57 : decode cX6_safeSenders 57 = .ok (.iload_n 1, 1) := by decide +kernel
theorem dX6_safeSenders_58 : decode cX6_safeSenders 58 = .ok (.invokevirtual 173, 3) := by decide +kernel
theorem dX6_safeSenders_61 : decode cX6_safeSenders 61 = .ok (.iload_n 2, 1) := by decide +kernel
theorem dX6_safeSenders_62 : decode cX6_safeSenders 62 = .ok (.aload_n 0, 1) := by decide +kernel
theorem dX6_safeSenders_63 : decode cX6_safeSenders 63 = .ok (.getfield 33, 3) := by decide +kernel
theorem dX6_safeSenders_66 : decode cX6_safeSenders 66 = .ok (.getfield 177, 3) := by decide +kernel
theorem dX6_safeSenders_69 : decode cX6_safeSenders 69 = .ok (.ifCond .ne 9, 3) := by decide +kernel
theorem dX6_safeSenders_72 : decode cX6_safeSenders 72 = .ok (.iconst 1, 1) := by decide +kernel
theorem dX6_safeSenders_73 : decode cX6_safeSenders 73 = .ok (.iload_n 3, 1) := by decide +kernel
theorem dX6_safeSenders_74 : decode cX6_safeSenders 74 = .ok (.ishl, 1) := by decide +kernel
theorem dX6_safeSenders_75 : decode cX6_safeSenders 75 = .ok (.goto 4, 3) := by decide +kernel
theorem dX6_safeSenders_78 : decode cX6_safeSenders 78 = .ok (.iconst 0, 1) := by decide +kernel
theorem dX6_safeSenders_79 : decode cX6_safeSenders 79 = .ok (.ior, 1) := by decide +kernel
theorem dX6_safeSenders_80 : decode cX6_safeSenders 80 = .ok (.istore_n 2, 1) := by decide +kernel
theorem dX6_safeSenders_81 : decode cX6_safeSenders 81 = .ok (.iinc 3 1, 3) := by decide +kernel
theorem dX6_safeSenders_84 : decode cX6_safeSenders 84 = .ok (.goto (-80), 3) := by decide +kernel
theorem dX6_safeSenders_87 : decode cX6_safeSenders 87 = .ok (.iconst 0, 1) := by decide +kernel
theorem dX6_safeSenders_88 : decode cX6_safeSenders 88 = .ok (.istore_n 3, 1) := by decide +kernel
theorem dX6_safeSenders_89 : decode cX6_safeSenders 89 = .ok (.iconst 0, 1) := by decide +kernel
theorem dX6_safeSenders_90 : decode cX6_safeSenders 90 = .ok (.istore 4, 2) := by decide +kernel
theorem dX6_safeSenders_92 : decode cX6_safeSenders 92 = .ok (.iload 4, 2) := by decide +kernel
theorem dX6_safeSenders_94 : decode cX6_safeSenders 94 = .ok (.aload_n 0, 1) := by decide +kernel
theorem dX6_safeSenders_95 : decode cX6_safeSenders 95 = .ok (.getfield 10, 3) := by decide +kernel
theorem dX6_safeSenders_98 : decode cX6_safeSenders 98 = .ok (.getfield 212, 3) := by decide +kernel
theorem dX6_safeSenders_101 : decode cX6_safeSenders 101 = .ok (.if_icmp .ge 32, 3) := by decide +kernel
theorem dX6_safeSenders_104 : decode cX6_safeSenders 104 = .ok (.iload 4, 2) := by decide +kernel
theorem dX6_safeSenders_106 : decode cX6_safeSenders 106 = .ok (.iload_n 1, 1) := by decide +kernel
theorem dX6_safeSenders_107 : decode cX6_safeSenders 107 = .ok (.if_icmp .eq 20, 3) := by decide +kernel
theorem dX6_safeSenders_110 : decode cX6_safeSenders 110 = .ok (.aload_n 0, 1) := by decide +kernel
theorem dX6_safeSenders_111 : decode cX6_safeSenders 111 = .ok (.getfield 10, 3) := by decide +kernel
theorem dX6_safeSenders_114 : decode cX6_safeSenders 114 = .ok (.iload 4, 2) := by decide +kernel
theorem dX6_safeSenders_116 : decode cX6_safeSenders 116 = .ok (.iload_n 1, 1) := by decide +kernel
theorem dX6_safeSenders_117 : decode cX6_safeSenders 117 = .ok (.iload_n 2, 1) := by decide +kernel
theorem dX6_safeSenders_118 : decode cX6_safeSenders 118 = .ok (.invokevirtual 255, 3) := by decide +kernel
theorem dX6_safeSenders_121 : decode cX6_safeSenders 121 = .ok (.ifCond .eq 6, 3) := by decide +kernel
theorem dX6_safeSenders_124 : decode cX6_safeSenders 124 = .ok (.iinc 3 1, 3) := by decide +kernel
theorem dX6_safeSenders_127 : decode cX6_safeSenders 127 = .ok (.iinc 4 1, 3) := by decide +kernel
theorem dX6_safeSenders_130 : decode cX6_safeSenders 130 = .ok (.goto (-38), 3) := by decide +kernel
theorem dX6_safeSenders_133 : decode cX6_safeSenders 133 = .ok (.iload_n 3, 1) := by decide +kernel
theorem dX6_safeSenders_134 : decode cX6_safeSenders 134 = .ok (.ireturn, 1) := by decide +kernel
theorem dX7_init_0 : decode cX7_init 0 = .ok (.aload_n 0, 1) := by decide +kernel
theorem dX7_init_1 : decode cX7_init 1 = .ok (.invokespecial 1, 3) := by decide +kernel
theorem dX7_init_4 : decode cX7_init 4 = .ok (.aload_n 0, 1) := by decide +kernel
theorem dX7_init_5 : decode cX7_init 5 = .ok (.iconst 2, 1) := by decide +kernel
theorem dX7_init_6 : decode cX7_init 6 = .ok (.putfield 7, 3) := by decide +kernel
theorem dX7_init_9 : decode cX7_init 9 = .ok (.aload_n 0, 1) := by decide +kernel
theorem dX7_init_10 : decode cX7_init 10 = .ok (.bipush 24, 2) := by decide +kernel
theorem dX7_init_12 : decode cX7_init 12 = .ok (.newarray .int, 2) := by decide +kernel
theorem dX7_init_14 : decode cX7_init 14 = .ok (.putfield 13, 3) := by decide +kernel
theorem dX7_init_17 : decode cX7_init 17 = .ok (.aload_n 0, 1) := by decide +kernel
theorem dX7_init_18 : decode cX7_init 18 = .ok (.bipush 24, 2) := by decide +kernel
theorem dX7_init_20 : decode cX7_init 20 = .ok (.newarray .int, 2) := by decide +kernel
theorem dX7_init_22 : decode cX7_init 22 = .ok (.putfield 17, 3) := by decide +kernel
theorem dX7_init_25 : decode cX7_init 25 = .ok (.aload_n 0, 1) := by decide +kernel
theorem dX7_init_26 : decode cX7_init 26 = .ok (.bipush 24, 2) := by decide +kernel
theorem dX7_init_28 : decode cX7_init 28 = .ok (.newarray .int, 2) := by decide +kernel
theorem dX7_init_30 : decode cX7_init 30 = .ok (.putfield 20, 3) := by decide +kernel
theorem dX7_init_33 : decode cX7_init 33 = .ok (.aload_n 0, 1) := by decide +kernel
theorem dX7_init_34 : decode cX7_init 34 = .ok (.bipush 24, 2) := by decide +kernel
theorem dX7_init_36 : decode cX7_init 36 = .ok (.newarray .int, 2) := by decide +kernel
theorem dX7_init_38 : decode cX7_init 38 = .ok (.putfield 23, 3) := by decide +kernel
theorem dX7_init_41 : decode cX7_init 41 = .ok (.aload_n 0, 1) := by decide +kernel
theorem dX7_init_42 : decode cX7_init 42 = .ok (.sipush 288, 3) := by decide +kernel
theorem dX7_init_45 : decode cX7_init 45 = .ok (.newarray .int, 2) := by decide +kernel
theorem dX7_init_47 : decode cX7_init 47 = .ok (.putfield 26, 3) := by decide +kernel
theorem dX7_init_50 : decode cX7_init 50 = .ok (.aload_n 0, 1) := by decide +kernel
theorem dX7_init_51 : decode cX7_init 51 = .ok (.bipush 41, 2) := by decide +kernel
theorem dX7_init_53 : decode cX7_init 53 = .ok (.newarray .int, 2) := by decide +kernel
theorem dX7_init_55 : decode cX7_init 55 = .ok (.putfield 29, 3) := by decide +kernel
theorem dX7_init_58 : decode cX7_init 58 = .ok (.return_, 1) := by decide +kernel
theorem dX7_thrown_0 : decode cX7_thrown 0 = .ok (.aload_n 0, 1) := by decide +kernel
theorem dX7_thrown_1 : decode cX7_thrown 1 = .ok (.getfield 32, 3) := by decide +kernel
theorem dX7_thrown_4 : decode cX7_thrown 4 = .ok (.ireturn, 1) := by decide +kernel
theorem dX7_within_0 : decode cX7_within 0 = .ok (.iload_n 0, 1) := by decide +kernel
theorem dX7_within_1 : decode cX7_within 1 = .ok (.iload_n 1, 1) := by decide +kernel
theorem dX7_within_2 : decode cX7_within 2 = .ok (.if_icmp .lt 12, 3) := by decide +kernel
theorem dX7_within_5 : decode cX7_within 5 = .ok (.iload_n 0, 1) := by decide +kernel
theorem dX7_within_6 : decode cX7_within 6 = .ok (.iload_n 2, 1) := by decide +kernel
theorem dX7_within_7 : decode cX7_within 7 = .ok (.if_icmp .gt 7, 3) := by decide +kernel
theorem dX7_within_10 : decode cX7_within 10 = .ok (.iconst 1, 1) := by decide +kernel
theorem dX7_within_11 : decode cX7_within 11 = .ok (.goto 4, 3) := by decide +kernel
theorem dX7_within_14 : decode cX7_within 14 = .ok (.iconst 0, 1) := by decide +kernel
theorem dX7_within_15 : decode cX7_within 15 = .ok (.ireturn, 1) := by decide +kernel
theorem dX7_isNode_0 : decode cX7_isNode 0 = .ok (.iload_n 1, 1) := by decide +kernel
theorem dX7_isNode_1 : decode cX7_isNode 1 = .ok (.ifCond .lt 15, 3) := by decide +kernel
theorem dX7_isNode_4 : decode cX7_isNode 4 = .ok (.iload_n 1, 1) := by decide +kernel
theorem dX7_isNode_5 : decode cX7_isNode 5 = .ok (.aload_n 0, 1) := by decide +kernel
theorem dX7_isNode_6 : decode cX7_isNode 6 = .ok (.getfield 7, 3) := by decide +kernel
theorem dX7_isNode_9 : decode cX7_isNode 9 = .ok (.if_icmp .ge 7, 3) := by decide +kernel
theorem dX7_isNode_12 : decode cX7_isNode 12 = .ok (.iconst 1, 1) := by decide +kernel
theorem dX7_isNode_13 : decode cX7_isNode 13 = .ok (.goto 4, 3) := by decide +kernel
theorem dX7_isNode_16 : decode cX7_isNode 16 = .ok (.iconst 0, 1) := by decide +kernel
theorem dX7_isNode_17 : decode cX7_isNode 17 = .ok (.ireturn, 1) := by decide +kernel
theorem dX7_isLink_0 : decode cX7_isLink 0 = .ok (.iload_n 1, 1) := by decide +kernel
theorem dX7_isLink_1 : decode cX7_isLink 1 = .ok (.ifCond .lt 15, 3) := by decide +kernel
theorem dX7_isLink_4 : decode cX7_isLink 4 = .ok (.iload_n 1, 1) := by decide +kernel
theorem dX7_isLink_5 : decode cX7_isLink 5 = .ok (.aload_n 0, 1) := by decide +kernel
theorem dX7_isLink_6 : decode cX7_isLink 6 = .ok (.getfield 35, 3) := by decide +kernel
theorem dX7_isLink_9 : decode cX7_isLink 9 = .ok (.if_icmp .ge 7, 3) := by decide +kernel
theorem dX7_isLink_12 : decode cX7_isLink 12 = .ok (.iconst 1, 1) := by decide +kernel
theorem dX7_isLink_13 : decode cX7_isLink 13 = .ok (.goto 4, 3) := by decide +kernel
theorem dX7_isLink_16 : decode cX7_isLink 16 = .ok (.iconst 0, 1) := by decide +kernel
theorem dX7_isLink_17 : decode cX7_isLink 17 = .ok (.ireturn, 1) := by decide +kernel
theorem dX7_isPair_0 : decode cX7_isPair 0 = .ok (.aload_n 0, 1) := by decide +kernel
theorem dX7_isPair_1 : decode cX7_isPair 1 = .ok (.iload_n 1, 1) := by decide +kernel
theorem dX7_isPair_2 : decode cX7_isPair 2 = .ok (.invokevirtual 38, 3) := by decide +kernel
theorem dX7_isPair_5 : decode cX7_isPair 5 = .ok (.ifCond .eq 20, 3) := by decide +kernel
theorem dX7_isPair_8 : decode cX7_isPair 8 = .ok (.aload_n 0, 1) := by decide +kernel
theorem dX7_isPair_9 : decode cX7_isPair 9 = .ok (.iload_n 2, 1) := by decide +kernel
theorem dX7_isPair_10 : decode cX7_isPair 10 = .ok (.invokevirtual 38, 3) := by decide +kernel
theorem dX7_isPair_13 : decode cX7_isPair 13 = .ok (.ifCond .eq 12, 3) := by decide +kernel
theorem dX7_isPair_16 : decode cX7_isPair 16 = .ok (.iload_n 1, 1) := by decide +kernel
theorem dX7_isPair_17 : decode cX7_isPair 17 = .ok (.iload_n 2, 1) := by decide +kernel
theorem dX7_isPair_18 : decode cX7_isPair 18 = .ok (.if_icmp .eq 7, 3) := by decide +kernel
theorem dX7_isPair_21 : decode cX7_isPair 21 = .ok (.iconst 1, 1) := by decide +kernel
theorem dX7_isPair_22 : decode cX7_isPair 22 = .ok (.goto 4, 3) := by decide +kernel
theorem dX7_isPair_25 : decode cX7_isPair 25 = .ok (.iconst 0, 1) := by decide +kernel
theorem dX7_isPair_26 : decode cX7_isPair 26 = .ok (.ireturn, 1) := by decide +kernel
theorem dX7_linkOf_0 : decode cX7_linkOf 0 = .ok (.iconst (-1), 1) := by decide +kernel
theorem dX7_linkOf_1 : decode cX7_linkOf 1 = .ok (.istore_n 3, 1) := by decide +kernel
theorem dX7_linkOf_2 : decode cX7_linkOf 2 = .ok (.iconst 0, 1) := by decide +kernel
theorem dX7_linkOf_3 : decode cX7_linkOf 3 = .ok (.istore 4, 2) := by decide +kernel
theorem dX7_linkOf_5 : decode cX7_linkOf 5 = .ok (.iload 4, 2) := by decide +kernel
theorem dX7_linkOf_7 : decode cX7_linkOf 7 = .ok (.aload_n 0, 1) := by decide +kernel
theorem dX7_linkOf_8 : decode cX7_linkOf 8 = .ok (.getfield 35, 3) := by decide +kernel
theorem dX7_linkOf_11 : decode cX7_linkOf 11 = .ok (.if_icmp .ge 60, 3) := by decide +kernel
theorem dX7_linkOf_14 : decode cX7_linkOf 14 = .ok (.aload_n 0, 1) := by decide +kernel
theorem dX7_linkOf_15 : decode cX7_linkOf 15 = .ok (.getfield 13, 3) := by decide +kernel
theorem dX7_linkOf_18 : decode cX7_linkOf 18 = .ok (.iload 4, 2) := by decide +kernel
theorem dX7_linkOf_20 : decode cX7_linkOf 20 = .ok (.iaload, 1) := by decide +kernel
theorem dX7_linkOf_21 : decode cX7_linkOf 21 = .ok (.iload_n 1, 1) := by decide +kernel
theorem dX7_linkOf_22 : decode cX7_linkOf 22 = .ok (.if_icmp .ne 14, 3) := by decide +kernel
theorem dX7_linkOf_25 : decode cX7_linkOf 25 = .ok (.aload_n 0, 1) := by decide +kernel
theorem dX7_linkOf_26 : decode cX7_linkOf 26 = .ok (.getfield 17, 3) := by decide +kernel
theorem dX7_linkOf_29 : decode cX7_linkOf 29 = .ok (.iload 4, 2) := by decide +kernel
theorem dX7_linkOf_31 : decode cX7_linkOf 31 = .ok (.iaload, 1) := by decide +kernel
theorem dX7_linkOf_32 : decode cX7_linkOf 32 = .ok (.iload_n 2, 1) := by decide +kernel
theorem dX7_linkOf_33 : decode cX7_linkOf 33 = .ok (.if_icmp .eq 25, 3) := by decide +kernel
theorem dX7_linkOf_36 : decode cX7_linkOf 36 = .ok (.aload_n 0, 1) := by decide +kernel
theorem dX7_linkOf_37 : decode cX7_linkOf 37 = .ok (.getfield 13, 3) := by decide +kernel
theorem dX7_linkOf_40 : decode cX7_linkOf 40 = .ok (.iload 4, 2) := by decide +kernel
theorem dX7_linkOf_42 : decode cX7_linkOf 42 = .ok (.iaload, 1) := by decide +kernel
theorem dX7_linkOf_43 : decode cX7_linkOf 43 = .ok (.iload_n 2, 1) := by decide +kernel
theorem dX7_linkOf_44 : decode cX7_linkOf 44 = .ok (.if_icmp .ne 19, 3) := by decide +kernel
theorem dX7_linkOf_47 : decode cX7_linkOf 47 = .ok (.aload_n 0, 1) := by decide +kernel
theorem dX7_linkOf_48 : decode cX7_linkOf 48 = .ok (.getfield 17, 3) := by decide +kernel
theorem dX7_linkOf_51 : decode cX7_linkOf 51 = .ok (.iload 4, 2) := by decide +kernel
theorem dX7_linkOf_53 : decode cX7_linkOf 53 = .ok (.iaload, 1) := by decide +kernel
theorem dX7_linkOf_54 : decode cX7_linkOf 54 = .ok (.iload_n 1, 1) := by decide +kernel
theorem dX7_linkOf_55 : decode cX7_linkOf 55 = .ok (.if_icmp .ne 8, 3) := by decide +kernel
theorem dX7_linkOf_58 : decode cX7_linkOf 58 = .ok (.iload 4, 2) := by decide +kernel
theorem dX7_linkOf_60 : decode cX7_linkOf 60 = .ok (.goto 4, 3) := by decide +kernel
theorem dX7_linkOf_63 : decode cX7_linkOf 63 = .ok (.iload_n 3, 1) := by decide +kernel
theorem dX7_linkOf_64 : decode cX7_linkOf 64 = .ok (.istore_n 3, 1) := by decide +kernel
theorem dX7_linkOf_65 : decode cX7_linkOf 65 = .ok (.iinc 4 1, 3) := by decide +kernel
theorem dX7_linkOf_68 : decode cX7_linkOf 68 = .ok (.goto (-63), 3) := by decide +kernel
theorem dX7_linkOf_71 : decode cX7_linkOf 71 = .ok (.iload_n 3, 1) := by decide +kernel
theorem dX7_linkOf_72 : decode cX7_linkOf 72 = .ok (.ireturn, 1) := by decide +kernel
theorem dX7_nodes_0 : decode cX7_nodes 0 = .ok (.aload_n 0, 1) := by decide +kernel
theorem dX7_nodes_1 : decode cX7_nodes 1 = .ok (.iconst 0, 1) := by decide +kernel
theorem dX7_nodes_2 : decode cX7_nodes 2 = .ok (.putfield 32, 3) := by decide +kernel
theorem dX7_nodes_5 : decode cX7_nodes 5 = .ok (.iload_n 1, 1) := by decide +kernel
theorem dX7_nodes_6 : decode cX7_nodes 6 = .ok (.iconst 2, 1) := by decide +kernel
theorem dX7_nodes_7 : decode cX7_nodes 7 = .ok (.bipush 12, 2) := by decide +kernel
theorem dX7_nodes_9 : decode cX7_nodes 9 = .ok (.invokestatic 42, 3) := by decide +kernel
theorem dX7_nodes_12 : decode cX7_nodes 12 = .ok (.ifCond .ne 5, 3) := by decide +kernel
theorem dX7_nodes_15 : decode cX7_nodes 15 = .ok (.iconst (-1), 1) := by decide +kernel
theorem dX7_nodes_16 : decode cX7_nodes 16 = .ok (.ireturn, 1) := by decide +kernel
theorem dX7_nodes_17 : decode cX7_nodes 17 = .ok (.aload_n 0, 1) := by decide +kernel
theorem dX7_nodes_18 : decode cX7_nodes 18 = .ok (.getfield 35, 3) := by decide +kernel
theorem dX7_nodes_21 : decode cX7_nodes 21 = .ok (.istore_n 2, 1) := by decide +kernel
theorem dX7_nodes_22 : decode cX7_nodes 22 = .ok (.aload_n 0, 1) := by decide +kernel
theorem dX7_nodes_23 : decode cX7_nodes 23 = .ok (.iload_n 1, 1) := by decide +kernel
theorem dX7_nodes_24 : decode cX7_nodes 24 = .ok (.putfield 7, 3) := by decide +kernel
theorem dX7_nodes_27 : decode cX7_nodes 27 = .ok (.aload_n 0, 1) := by decide +kernel
theorem dX7_nodes_28 : decode cX7_nodes 28 = .ok (.iconst 0, 1) := by decide +kernel
theorem dX7_nodes_29 : decode cX7_nodes 29 = .ok (.putfield 35, 3) := by decide +kernel
theorem dX7_nodes_32 : decode cX7_nodes 32 = .ok (.aload_n 0, 1) := by decide +kernel
theorem dX7_nodes_33 : decode cX7_nodes 33 = .ok (.iconst 0, 1) := by decide +kernel
theorem dX7_nodes_34 : decode cX7_nodes 34 = .ok (.putfield 46, 3) := by decide +kernel
theorem dX7_nodes_37 : decode cX7_nodes 37 = .ok (.aload_n 0, 1) := by decide +kernel
theorem dX7_nodes_38 : decode cX7_nodes 38 = .ok (.iconst 0, 1) := by decide +kernel
theorem dX7_nodes_39 : decode cX7_nodes 39 = .ok (.putfield 49, 3) := by decide +kernel
theorem dX7_nodes_42 : decode cX7_nodes 42 = .ok (.iload_n 2, 1) := by decide +kernel
theorem dX7_nodes_43 : decode cX7_nodes 43 = .ok (.ireturn, 1) := by decide +kernel
theorem dX7_link_0 : decode cX7_link 0 = .ok (.aload_n 0, 1) := by decide +kernel
theorem dX7_link_1 : decode cX7_link 1 = .ok (.iconst 0, 1) := by decide +kernel
theorem dX7_link_2 : decode cX7_link 2 = .ok (.putfield 32, 3) := by decide +kernel
theorem dX7_link_5 : decode cX7_link 5 = .ok (.aload_n 0, 1) := by decide +kernel
theorem dX7_link_6 : decode cX7_link 6 = .ok (.iload_n 1, 1) := by decide +kernel
theorem dX7_link_7 : decode cX7_link 7 = .ok (.iload_n 2, 1) := by decide +kernel
theorem dX7_link_8 : decode cX7_link 8 = .ok (.invokevirtual 52, 3) := by decide +kernel
theorem dX7_link_11 : decode cX7_link 11 = .ok (.ifCond .eq 31, 3) := by decide +kernel
theorem dX7_link_14 : decode cX7_link 14 = .ok (.iload_n 3, 1) := by decide +kernel
theorem dX7_link_15 : decode cX7_link 15 = .ok (.iconst 1, 1) := by decide +kernel
theorem dX7_link_16 : decode cX7_link 16 = .ok (.bipush 99, 2) := by decide +kernel
theorem dX7_link_18 : decode cX7_link 18 = .ok (.invokestatic 42, 3) := by decide +kernel
theorem dX7_link_21 : decode cX7_link 21 = .ok (.ifCond .eq 21, 3) := by decide +kernel
theorem dX7_link_24 : decode cX7_link 24 = .ok (.aload_n 0, 1) := by decide +kernel
theorem dX7_link_25 : decode cX7_link 25 = .ok (.iload_n 1, 1) := by decide +kernel
theorem dX7_link_26 : decode cX7_link 26 = .ok (.iload_n 2, 1) := by decide +kernel
theorem dX7_link_27 : decode cX7_link 27 = .ok (.invokevirtual 56, 3) := by decide +kernel
theorem dX7_link_30 : decode cX7_link 30 = .ok (.ifCond .ge 12, 3) := by decide +kernel
theorem dX7_link_33 : decode cX7_link 33 = .ok (.aload_n 0, 1) := by decide +kernel
theorem dX7_link_34 : decode cX7_link 34 = .ok (.getfield 35, 3) := by decide +kernel
theorem dX7_link_37 : decode cX7_link 37 = .ok (.bipush 24, 2) := by decide +kernel
theorem dX7_link_39 : decode cX7_link 39 = .ok (.if_icmp .ne 5, 3) := by decide +kernel
theorem dX7_link_42 : decode cX7_link 42 = .ok (.iconst (-1), 1) := by decide +kernel
theorem dX7_link_43 : decode cX7_link 43 = .ok (.ireturn, 1) := by decide +kernel
theorem dX7_link_44 : decode cX7_link 44 = .ok (.aload_n 0, 1) := by decide +kernel
theorem dX7_link_45 : decode cX7_link 45 = .ok (.getfield 13, 3) := by decide +kernel
theorem dX7_link_48 : decode cX7_link 48 = .ok (.aload_n 0, 1) := by decide +kernel
theorem dX7_link_49 : decode cX7_link 49 = .ok (.getfield 35, 3) := by decide +kernel
theorem dX7_link_52 : decode cX7_link 52 = .ok (.iload_n 1, 1) := by decide +kernel
theorem dX7_link_53 : decode cX7_link 53 = .ok (.iastore, 1) := by decide +kernel
theorem dX7_link_54 : decode cX7_link 54 = .ok (.aload_n 0, 1) := by decide +kernel
theorem dX7_link_55 : decode cX7_link 55 = .ok (.getfield 17, 3) := by decide +kernel
theorem dX7_link_58 : decode cX7_link 58 = .ok (.aload_n 0, 1) := by decide +kernel
theorem dX7_link_59 : decode cX7_link 59 = .ok (.getfield 35, 3) := by decide +kernel
theorem dX7_link_62 : decode cX7_link 62 = .ok (.iload_n 2, 1) := by decide +kernel
theorem dX7_link_63 : decode cX7_link 63 = .ok (.iastore, 1) := by decide +kernel
theorem dX7_link_64 : decode cX7_link 64 = .ok (.aload_n 0, 1) := by decide +kernel
theorem dX7_link_65 : decode cX7_link 65 = .ok (.getfield 20, 3) := by decide +kernel
theorem dX7_link_68 : decode cX7_link 68 = .ok (.aload_n 0, 1) := by decide +kernel
theorem dX7_link_69 : decode cX7_link 69 = .ok (.getfield 35, 3) := by decide +kernel
theorem dX7_link_72 : decode cX7_link 72 = .ok (.iload_n 3, 1) := by decide +kernel
theorem dX7_link_73 : decode cX7_link 73 = .ok (.iastore, 1) := by decide +kernel
theorem dX7_link_74 : decode cX7_link 74 = .ok (.aload_n 0, 1) := by decide +kernel
theorem dX7_link_75 : decode cX7_link 75 = .ok (.getfield 23, 3) := by decide +kernel
theorem dX7_link_78 : decode cX7_link 78 = .ok (.aload_n 0, 1) := by decide +kernel
theorem dX7_link_79 : decode cX7_link 79 = .ok (.getfield 35, 3) := by decide +kernel
theorem dX7_link_82 : decode cX7_link 82 = .ok (.iconst 0, 1) := by decide +kernel
theorem dX7_link_83 : decode cX7_link 83 = .ok (.iastore, 1) := by decide +kernel
theorem dX7_link_84 : decode cX7_link 84 = .ok (.aload_n 0, 1) := by decide +kernel
theorem dX7_link_85 : decode cX7_link 85 = .ok (.dup, 1) := by decide +kernel
theorem dX7_link_86 : decode cX7_link 86 = .ok (.getfield 35, 3) := by decide +kernel
theorem dX7_link_89 : decode cX7_link 89 = .ok (.iconst 1, 1) := by decide +kernel
theorem dX7_link_90 : decode cX7_link 90 = .ok (.iadd, 1) := by decide +kernel
theorem dX7_link_91 : decode cX7_link 91 = .ok (.putfield 35, 3) := by decide +kernel
theorem dX7_link_94 : decode cX7_link 94 = .ok (.aload_n 0, 1) := by decide +kernel
theorem dX7_link_95 : decode cX7_link 95 = .ok (.getfield 35, 3) := by decide +kernel
theorem dX7_link_98 : decode cX7_link 98 = .ok (.iconst 1, 1) := by decide +kernel
theorem dX7_link_99 : decode cX7_link 99 = .ok (.isub, 1) := by decide +kernel
theorem dX7_link_100 : decode cX7_link 100 = .ok (.ireturn, 1) := by decide +kernel
theorem dX7_cost_0 : decode cX7_cost 0 = .ok (.aload_n 0, 1) := by decide +kernel
theorem dX7_cost_1 : decode cX7_cost 1 = .ok (.iconst 0, 1) := by decide +kernel
theorem dX7_cost_2 : decode cX7_cost 2 = .ok (.putfield 32, 3) := by decide +kernel
theorem dX7_cost_5 : decode cX7_cost 5 = .ok (.aload_n 0, 1) := by decide +kernel
theorem dX7_cost_6 : decode cX7_cost 6 = .ok (.iload_n 1, 1) := by decide +kernel
theorem dX7_cost_7 : decode cX7_cost 7 = .ok (.invokevirtual 60, 3) := by decide +kernel
theorem dX7_cost_10 : decode cX7_cost 10 = .ok (.ifCond .eq 13, 3) := by decide +kernel
theorem dX7_cost_13 : decode cX7_cost 13 = .ok (.iload_n 2, 1) := by decide +kernel
theorem dX7_cost_14 : decode cX7_cost 14 = .ok (.iconst 1, 1) := by decide +kernel
theorem dX7_cost_15 : decode cX7_cost 15 = .ok (.bipush 99, 2) := by decide +kernel
theorem dX7_cost_17 : decode cX7_cost 17 = .ok (.invokestatic 42, 3) := by decide +kernel
theorem dX7_cost_20 : decode cX7_cost 20 = .ok (.ifCond .ne 5, 3) := by decide +kernel
theorem dX7_cost_23 : decode cX7_cost 23 = .ok (.iconst (-1), 1) := by decide +kernel
theorem dX7_cost_24 : decode cX7_cost 24 = .ok (.ireturn, 1) := by decide +kernel
theorem dX7_cost_25 : decode cX7_cost 25 = .ok (.aload_n 0, 1) := by decide +kernel
theorem dX7_cost_26 : decode cX7_cost 26 = .ok (.getfield 20, 3) := by decide +kernel
theorem dX7_cost_29 : decode cX7_cost 29 = .ok (.iload_n 1, 1) := by decide +kernel
theorem dX7_cost_30 : decode cX7_cost 30 = .ok (.iaload, 1) := by decide +kernel
theorem dX7_cost_31 : decode cX7_cost 31 = .ok (.istore_n 3, 1) := by decide +kernel
theorem dX7_cost_32 : decode cX7_cost 32 = .ok (.aload_n 0, 1) := by decide +kernel
theorem dX7_cost_33 : decode cX7_cost 33 = .ok (.getfield 20, 3) := by decide +kernel
theorem dX7_cost_36 : decode cX7_cost 36 = .ok (.iload_n 1, 1) := by decide +kernel
theorem dX7_cost_37 : decode cX7_cost 37 = .ok (.iload_n 2, 1) := by decide +kernel
theorem dX7_cost_38 : decode cX7_cost 38 = .ok (.iastore, 1) := by decide +kernel
theorem dX7_cost_39 : decode cX7_cost 39 = .ok (.iload_n 3, 1) := by decide +kernel
theorem dX7_cost_40 : decode cX7_cost 40 = .ok (.ireturn, 1) := by decide +kernel
theorem dX7_groups_0 : decode cX7_groups 0 = .ok (.aload_n 0, 1) := by decide +kernel
theorem dX7_groups_1 : decode cX7_groups 1 = .ok (.iconst 0, 1) := by decide +kernel
theorem dX7_groups_2 : decode cX7_groups 2 = .ok (.putfield 32, 3) := by decide +kernel
theorem dX7_groups_5 : decode cX7_groups 5 = .ok (.aload_n 0, 1) := by decide +kernel
theorem dX7_groups_6 : decode cX7_groups 6 = .ok (.iload_n 1, 1) := by decide +kernel
theorem dX7_groups_7 : decode cX7_groups 7 = .ok (.invokevirtual 60, 3) := by decide +kernel
theorem dX7_groups_10 : decode cX7_groups 10 = .ok (.ifCond .eq 14, 3) := by decide +kernel
theorem dX7_groups_13 : decode cX7_groups 13 = .ok (.iload_n 2, 1) := by decide +kernel
theorem dX7_groups_14 : decode cX7_groups 14 = .ok (.iconst 0, 1) := by decide +kernel
theorem dX7_groups_15 : decode cX7_groups 15 = .ok (.sipush 255, 3) := by decide +kernel
theorem dX7_groups_18 : decode cX7_groups 18 = .ok (.invokestatic 42, 3) := by decide +kernel
theorem dX7_groups_21 : decode cX7_groups 21 = .ok (.ifCond .ne 5, 3) := by decide +kernel
theorem dX7_groups_24 : decode cX7_groups 24 = .ok (.iconst (-1), 1) := by decide +kernel
theorem dX7_groups_25 : decode cX7_groups 25 = .ok (.ireturn, 1) := by decide +kernel
theorem dX7_groups_26 : decode cX7_groups 26 = .ok (.aload_n 0, 1) := by decide +kernel
theorem dX7_groups_27 : decode cX7_groups 27 = .ok (.getfield 23, 3) := by decide +kernel
theorem dX7_groups_30 : decode cX7_groups 30 = .ok (.iload_n 1, 1) := by decide +kernel
theorem dX7_groups_31 : decode cX7_groups 31 = .ok (.iaload, 1) := by decide +kernel
theorem dX7_groups_32 : decode cX7_groups 32 = .ok (.istore_n 3, 1) := by decide +kernel
theorem dX7_groups_33 : decode cX7_groups 33 = .ok (.aload_n 0, 1) := by decide +kernel
theorem dX7_groups_34 : decode cX7_groups 34 = .ok (.getfield 23, 3) := by decide +kernel
theorem dX7_groups_37 : decode cX7_groups 37 = .ok (.iload_n 1, 1) := by decide +kernel
theorem dX7_groups_38 : decode cX7_groups 38 = .ok (.iload_n 2, 1) := by decide +kernel
theorem dX7_groups_39 : decode cX7_groups 39 = .ok (.iastore, 1) := by decide +kernel
theorem dX7_groups_40 : decode cX7_groups 40 = .ok (.iload_n 3, 1) := by decide +kernel
theorem dX7_groups_41 : decode cX7_groups 41 = .ok (.ireturn, 1) := by decide +kernel
theorem dX7_down_0 : decode cX7_down 0 = .ok (.aload_n 0, 1) := by decide +kernel
theorem dX7_down_1 : decode cX7_down 1 = .ok (.iconst 0, 1) := by decide +kernel
theorem dX7_down_2 : decode cX7_down 2 = .ok (.putfield 32, 3) := by decide +kernel
theorem dX7_down_5 : decode cX7_down 5 = .ok (.iload_n 1, 1) := by decide +kernel
theorem dX7_down_6 : decode cX7_down 6 = .ok (.ifCond .eq 44, 3) := by decide +kernel
theorem dX7_down_9 : decode cX7_down 9 = .ok (.iload_n 1, 1) := by decide +kernel
theorem dX7_down_10 : decode cX7_down 10 = .ok (.iconst 1, 1) := by decide +kernel
theorem dX7_down_11 : decode cX7_down 11 = .ok (.if_icmp .ne 11, 3) := by decide +kernel
theorem dX7_down_14 : decode cX7_down 14 = .ok (.aload_n 0, 1) := by decide +kernel
theorem dX7_down_15 : decode cX7_down 15 = .ok (.iload_n 2, 1) := by decide +kernel
theorem dX7_down_16 : decode cX7_down 16 = .ok (.invokevirtual 60, 3) := by decide +kernel
theorem dX7_down_19 : decode cX7_down 19 = .ok (.ifCond .ne 31, 3) := by decide +kernel
theorem dX7_down_22 : decode cX7_down 22 = .ok (.iload_n 1, 1) := by decide +kernel
theorem dX7_down_23 : decode cX7_down 23 = .ok (.iconst 2, 1) := by decide +kernel
theorem dX7_down_24 : decode cX7_down 24 = .ok (.if_icmp .ne 11, 3) := by decide +kernel
theorem dX7_down_27 : decode cX7_down 27 = .ok (.aload_n 0, 1) := by decide +kernel
theorem dX7_down_28 : decode cX7_down 28 = .ok (.iload_n 2, 1) := by decide +kernel
theorem dX7_down_29 : decode cX7_down 29 = .ok (.invokevirtual 38, 3) := by decide +kernel
theorem dX7_down_32 : decode cX7_down 32 = .ok (.ifCond .ne 18, 3) := by decide +kernel
theorem dX7_down_35 : decode cX7_down 35 = .ok (.iload_n 1, 1) := by decide +kernel
theorem dX7_down_36 : decode cX7_down 36 = .ok (.iconst 3, 1) := by decide +kernel
theorem dX7_down_37 : decode cX7_down 37 = .ok (.if_icmp .ne 17, 3) := by decide +kernel
theorem dX7_down_40 : decode cX7_down 40 = .ok (.iload_n 2, 1) := by decide +kernel
theorem dX7_down_41 : decode cX7_down 41 = .ok (.iconst 0, 1) := by decide +kernel
theorem dX7_down_42 : decode cX7_down 42 = .ok (.bipush 7, 2) := by decide +kernel
theorem dX7_down_44 : decode cX7_down 44 = .ok (.invokestatic 42, 3) := by decide +kernel
theorem dX7_down_47 : decode cX7_down 47 = .ok (.ifCond .eq 7, 3) := by decide +kernel
theorem dX7_down_50 : decode cX7_down 50 = .ok (.iconst 1, 1) := by decide +kernel
theorem dX7_down_51 : decode cX7_down 51 = .ok (.goto 4, 3) := by decide +kernel
theorem dX7_down_54 : decode cX7_down 54 = .ok (.iconst 0, 1) := by decide +kernel
theorem dX7_down_55 : decode cX7_down 55 = .ok (.istore_n 3, 1) := by decide +kernel
theorem dX7_down_56 : decode cX7_down 56 = .ok (.iload_n 3, 1) := by decide +kernel
theorem dX7_down_57 : decode cX7_down 57 = .ok (.ifCond .eq 21, 3) := by decide +kernel
theorem dX7_down_60 : decode cX7_down 60 = .ok (.aload_n 0, 1) := by decide +kernel
theorem dX7_down_61 : decode cX7_down 61 = .ok (.iload_n 1, 1) := by decide +kernel
theorem dX7_down_62 : decode cX7_down 62 = .ok (.putfield 46, 3) := by decide +kernel
theorem dX7_down_65 : decode cX7_down 65 = .ok (.aload_n 0, 1) := by decide +kernel
theorem dX7_down_66 : decode cX7_down 66 = .ok (.iload_n 1, 1) := by decide +kernel
theorem dX7_down_67 : decode cX7_down 67 = .ok (.ifCond .ne 7, 3) := by decide +kernel
theorem dX7_down_70 : decode cX7_down 70 = .ok (.iconst 0, 1) := by decide +kernel
theorem dX7_down_71 : decode cX7_down 71 = .ok (.goto 4, 3) := by decide +kernel
theorem dX7_down_74 : decode cX7_down 74 = .ok (.iload_n 2, 1) := by decide +kernel
theorem dX7_down_75 : decode cX7_down 75 = .ok (.putfield 49, 3) := by decide +kernel
theorem dX7_down_78 : decode cX7_down 78 = .ok (.iload_n 3, 1) := by decide +kernel
theorem dX7_down_79 : decode cX7_down 79 = .ok (.ireturn, 1) := by decide +kernel
theorem dX7_isDown_0 : decode cX7_isDown 0 = .ok (.iload_n 2, 1) := by decide +kernel
theorem dX7_isDown_1 : decode cX7_isDown 1 = .ok (.tableswitch 84 1 3 #[27, 38, 64], 27) := by decide +kernel
theorem dX7_isDown_28 : decode cX7_isDown 28 = .ok (.iload_n 1, 1) := by decide +kernel
theorem dX7_isDown_29 : decode cX7_isDown 29 = .ok (.iload_n 3, 1) := by decide +kernel
theorem dX7_isDown_30 : decode cX7_isDown 30 = .ok (.if_icmp .ne 7, 3) := by decide +kernel
theorem dX7_isDown_33 : decode cX7_isDown 33 = .ok (.iconst 1, 1) := by decide +kernel
theorem dX7_isDown_34 : decode cX7_isDown 34 = .ok (.goto 4, 3) := by decide +kernel
theorem dX7_isDown_37 : decode cX7_isDown 37 = .ok (.iconst 0, 1) := by decide +kernel
theorem dX7_isDown_38 : decode cX7_isDown 38 = .ok (.ireturn, 1) := by decide +kernel
theorem dX7_isDown_39 : decode cX7_isDown 39 = .ok (.aload_n 0, 1) := by decide +kernel
theorem dX7_isDown_40 : decode cX7_isDown 40 = .ok (.getfield 13, 3) := by decide +kernel
theorem dX7_isDown_43 : decode cX7_isDown 43 = .ok (.iload_n 1, 1) := by decide +kernel
theorem dX7_isDown_44 : decode cX7_isDown 44 = .ok (.iaload, 1) := by decide +kernel
theorem dX7_isDown_45 : decode cX7_isDown 45 = .ok (.iload_n 3, 1) := by decide +kernel
theorem dX7_isDown_46 : decode cX7_isDown 46 = .ok (.if_icmp .eq 13, 3) := by decide +kernel
theorem dX7_isDown_49 : decode cX7_isDown 49 = .ok (.aload_n 0, 1) := by decide +kernel
theorem dX7_isDown_50 : decode cX7_isDown 50 = .ok (.getfield 17, 3) := by decide +kernel
theorem dX7_isDown_53 : decode cX7_isDown 53 = .ok (.iload_n 1, 1) := by decide +kernel
theorem dX7_isDown_54 : decode cX7_isDown 54 = .ok (.iaload, 1) := by decide +kernel
theorem dX7_isDown_55 : decode cX7_isDown 55 = .ok (.iload_n 3, 1) := by decide +kernel
theorem dX7_isDown_56 : decode cX7_isDown 56 = .ok (.if_icmp .ne 7, 3) := by decide +kernel
theorem dX7_isDown_59 : decode cX7_isDown 59 = .ok (.iconst 1, 1) := by decide +kernel
theorem dX7_isDown_60 : decode cX7_isDown 60 = .ok (.goto 4, 3) := by decide +kernel
theorem dX7_isDown_63 : decode cX7_isDown 63 = .ok (.iconst 0, 1) := by decide +kernel
theorem dX7_isDown_64 : decode cX7_isDown 64 = .ok (.ireturn, 1) := by decide +kernel
theorem dX7_isDown_65 : decode cX7_isDown 65 = .ok (.aload_n 0, 1) := by decide +kernel
theorem dX7_isDown_66 : decode cX7_isDown 66 = .ok (.getfield 23, 3) := by decide +kernel
theorem dX7_isDown_69 : decode cX7_isDown 69 = .ok (.iload_n 1, 1) := by decide +kernel
theorem dX7_isDown_70 : decode cX7_isDown 70 = .ok (.iaload, 1) := by decide +kernel
theorem dX7_isDown_71 : decode cX7_isDown 71 = .ok (.iload_n 3, 1) := by decide +kernel
theorem dX7_isDown_72 : decode cX7_isDown 72 = .ok (.ishr, 1) := by decide +kernel
theorem dX7_isDown_73 : decode cX7_isDown 73 = .ok (.iconst 1, 1) := by decide +kernel
theorem dX7_isDown_74 : decode cX7_isDown 74 = .ok (.iand, 1) := by decide +kernel
theorem dX7_isDown_75 : decode cX7_isDown 75 = .ok (.iconst 1, 1) := by decide +kernel
theorem dX7_isDown_76 : decode cX7_isDown 76 = .ok (.if_icmp .ne 7, 3) := by decide +kernel
theorem dX7_isDown_79 : decode cX7_isDown 79 = .ok (.iconst 1, 1) := by decide +kernel
theorem dX7_isDown_80 : decode cX7_isDown 80 = .ok (.goto 4, 3) := by decide +kernel
theorem dX7_isDown_83 : decode cX7_isDown 83 = .ok (.iconst 0, 1) := by decide +kernel
theorem dX7_isDown_84 : decode cX7_isDown 84 = .ok (.ireturn, 1) := by decide +kernel
theorem dX7_isDown_85 : decode cX7_isDown 85 = .ok (.iconst 0, 1) := by decide +kernel
theorem dX7_isDown_86 : decode cX7_isDown 86 = .ok (.ireturn, 1) := by decide +kernel
theorem dX7_at_0 : decode cX7_at 0 = .ok (.iload_n 0, 1) := by decide +kernel
theorem dX7_at_1 : decode cX7_at 1 = .ok (.bipush 12, 2) := by decide +kernel
theorem dX7_at_3 : decode cX7_at 3 = .ok (.iload_n 1, 1) := by decide +kernel
theorem dX7_at_4 : decode cX7_at 4 = .ok (.imul, 1) := by decide +kernel
theorem dX7_at_5 : decode cX7_at 5 = .ok (.iadd, 1) := by decide +kernel
theorem dX7_at_6 : decode cX7_at 6 = .ok (.iload_n 2, 1) := by decide +kernel
theorem dX7_at_7 : decode cX7_at 7 = .ok (.iadd, 1) := by decide +kernel
theorem dX7_at_8 : decode cX7_at 8 = .ok (.ireturn, 1) := by decide +kernel
theorem dX7_farOf_0 : decode cX7_farOf 0 = .ok (.aload_n 0, 1) := by decide +kernel
theorem dX7_farOf_1 : decode cX7_farOf 1 = .ok (.getfield 26, 3) := by decide +kernel
theorem dX7_farOf_4 : decode cX7_farOf 4 = .ok (.iconst 0, 1) := by decide +kernel
theorem dX7_farOf_5 : decode cX7_farOf 5 = .ok (.iload_n 1, 1) := by decide +kernel
theorem dX7_farOf_6 : decode cX7_farOf 6 = .ok (.iload_n 2, 1) := by decide +kernel
theorem dX7_farOf_7 : decode cX7_farOf 7 = .ok (.invokestatic 63, 3) := by decide +kernel
theorem dX7_farOf_10 : decode cX7_farOf 10 = .ok (.iaload, 1) := by decide +kernel
theorem dX7_farOf_11 : decode cX7_farOf 11 = .ok (.ireturn, 1) := by decide +kernel
theorem dX7_laysFar_0 : decode cX7_laysFar 0 = .ok (.iconst 0, 1) := by decide +kernel
theorem dX7_laysFar_1 : decode cX7_laysFar 1 = .ok (.istore_n 3, 1) := by decide +kernel
theorem dX7_laysFar_2 : decode cX7_laysFar 2 = .ok (.iload_n 3, 1) := by decide +kernel
theorem dX7_laysFar_3 : decode cX7_laysFar 3 = .ok (.aload_n 0, 1) := by decide +kernel
theorem dX7_laysFar_4 : decode cX7_laysFar 4 = .ok (.getfield 7, 3) := by decide +kernel
theorem dX7_laysFar_7 : decode cX7_laysFar 7 = .ok (.if_icmp .ge 51, 3) := by decide +kernel
theorem dX7_laysFar_10 : decode cX7_laysFar 10 = .ok (.iconst 0, 1) := by decide +kernel
theorem dX7_laysFar_11 : decode cX7_laysFar 11 = .ok (.istore 4, 2) := by decide +kernel
theorem dX7_laysFar_13 : decode cX7_laysFar 13 = .ok (.iload 4, 2) := by decide +kernel
theorem dX7_laysFar_15 : decode cX7_laysFar 15 = .ok (.aload_n 0, 1) := by decide +kernel
theorem dX7_laysFar_16 : decode cX7_laysFar 16 = .ok (.getfield 7, 3) := by decide +kernel
theorem dX7_laysFar_19 : decode cX7_laysFar 19 = .ok (.if_icmp .ge 33, 3) := by decide +kernel
theorem dX7_laysFar_22 : decode cX7_laysFar 22 = .ok (.aload_n 0, 1) := by decide +kernel
theorem dX7_laysFar_23 : decode cX7_laysFar 23 = .ok (.getfield 26, 3) := by decide +kernel
theorem dX7_laysFar_26 : decode cX7_laysFar 26 = .ok (.iload_n 1, 1) := by decide +kernel
theorem dX7_laysFar_27 : decode cX7_laysFar 27 = .ok (.iload_n 3, 1) := by decide +kernel
theorem dX7_laysFar_28 : decode cX7_laysFar 28 = .ok (.iload 4, 2) := by decide +kernel
theorem dX7_laysFar_30 : decode cX7_laysFar 30 = .ok (.invokestatic 63, 3) := by decide +kernel
theorem dX7_laysFar_33 : decode cX7_laysFar 33 = .ok (.iload_n 3, 1) := by decide +kernel
theorem dX7_laysFar_34 : decode cX7_laysFar 34 = .ok (.iload 4, 2) := by decide +kernel
theorem dX7_laysFar_36 : decode cX7_laysFar 36 = .ok (.if_icmp .ne 7, 3) := by decide +kernel
theorem dX7_laysFar_39 : decode cX7_laysFar 39 = .ok (.iconst 0, 1) := by decide +kernel
theorem dX7_laysFar_40 : decode cX7_laysFar 40 = .ok (.goto 5, 3) := by decide +kernel
theorem dX7_laysFar_43 : decode cX7_laysFar 43 = .ok (.ldc 67, 2) := by decide +kernel
theorem dX7_laysFar_45 : decode cX7_laysFar 45 = .ok (.iastore, 1) := by decide +kernel
theorem dX7_laysFar_46 : decode cX7_laysFar 46 = .ok (.iinc 4 1, 3) := by decide +kernel
theorem dX7_laysFar_49 : decode cX7_laysFar 49 = .ok (.goto (-36), 3) := by decide +kernel
theorem dX7_laysFar_52 : decode cX7_laysFar 52 = .ok (.iinc 3 1, 3) := by decide +kernel
theorem dX7_laysFar_55 : decode cX7_laysFar 55 = .ok (.goto (-53), 3) := by decide +kernel
theorem dX7_laysFar_58 : decode cX7_laysFar 58 = .ok (.iconst 1, 1) := by decide +kernel
theorem dX7_laysFar_59 : decode cX7_laysFar 59 = .ok (.istore_n 3, 1) := by decide +kernel
theorem dX7_laysFar_60 : decode cX7_laysFar 60 = .ok (.iload_n 3, 1) := by decide +kernel
theorem dX7_laysFar_61 : decode cX7_laysFar 61 = .ok (.ifCond .eq 178, 3) := by decide +kernel
theorem dX7_laysFar_64 : decode cX7_laysFar 64 = .ok (.iconst 0, 1) := by decide +kernel
theorem dX7_laysFar_65 : decode cX7_laysFar 65 = .ok (.istore_n 3, 1) := by decide +kernel
theorem dX7_laysFar_66 : decode cX7_laysFar 66 = .ok (.iconst 0, 1) := by decide +kernel
theorem dX7_laysFar_67 : decode cX7_laysFar 67 = .ok (.istore 4, 2) := by decide +kernel
theorem dX7_laysFar_69 : decode cX7_laysFar 69 = .ok (.iload 4, 2) := by decide +kernel
theorem dX7_laysFar_71 : decode cX7_laysFar 71 = .ok (.aload_n 0, 1) := by decide +kernel
theorem dX7_laysFar_72 : decode cX7_laysFar 72 = .ok (.getfield 35, 3) := by decide +kernel
theorem dX7_laysFar_75 : decode cX7_laysFar 75 = .ok (.if_icmp .ge 161, 3) := by decide +kernel
theorem dX7_laysFar_78 : decode cX7_laysFar 78 = .ok (.iconst 0, 1) := by decide +kernel
theorem dX7_laysFar_79 : decode cX7_laysFar 79 = .ok (.istore 5, 2) := by decide +kernel
theorem dX7_laysFar_81 : decode cX7_laysFar 81 = .ok (.iload 5, 2) := by decide +kernel
theorem dX7_laysFar_83 : decode cX7_laysFar 83 = .ok (.aload_n 0, 1) := by decide +kernel
theorem dX7_laysFar_84 : decode cX7_laysFar 84 = .ok (.getfield 7, 3) := by decide +kernel
theorem dX7_laysFar_87 : decode cX7_laysFar 87 = .ok (.if_icmp .ge 143, 3) := by decide +kernel
theorem dX7_laysFar_90 : decode cX7_laysFar 90 = .ok (.iload 4, 2) := by decide +kernel
theorem dX7_laysFar_92 : decode cX7_laysFar 92 = .ok (.iload_n 2, 1) := by decide +kernel
theorem dX7_laysFar_93 : decode cX7_laysFar 93 = .ok (.if_icmp .eq 137, 3) := by decide +kernel
theorem dX7_laysFar_96 : decode cX7_laysFar 96 = .ok (.iload_n 1, 1) := by decide +kernel
theorem dX7_laysFar_97 : decode cX7_laysFar 97 = .ok (.aload_n 0, 1) := by decide +kernel
theorem dX7_laysFar_98 : decode cX7_laysFar 98 = .ok (.getfield 13, 3) := by decide +kernel
theorem dX7_laysFar_101 : decode cX7_laysFar 101 = .ok (.iload 4, 2) := by decide +kernel
theorem dX7_laysFar_103 : decode cX7_laysFar 103 = .ok (.iaload, 1) := by decide +kernel
theorem dX7_laysFar_104 : decode cX7_laysFar 104 = .ok (.iload 5, 2) := by decide +kernel
theorem dX7_laysFar_106 : decode cX7_laysFar 106 = .ok (.invokestatic 63, 3) := by decide +kernel
theorem dX7_laysFar_109 : decode cX7_laysFar 109 = .ok (.istore 6, 2) := by decide +kernel
theorem dX7_laysFar_111 : decode cX7_laysFar 111 = .ok (.iload_n 1, 1) := by decide +kernel
theorem dX7_laysFar_112 : decode cX7_laysFar 112 = .ok (.aload_n 0, 1) := by decide +kernel
theorem dX7_laysFar_113 : decode cX7_laysFar 113 = .ok (.getfield 17, 3) := by decide +kernel
theorem dX7_laysFar_116 : decode cX7_laysFar 116 = .ok (.iload 4, 2) := by decide +kernel
theorem dX7_laysFar_118 : decode cX7_laysFar 118 = .ok (.iaload, 1) := by decide +kernel
theorem dX7_laysFar_119 : decode cX7_laysFar 119 = .ok (.iload 5, 2) := by decide +kernel
theorem dX7_laysFar_121 : decode cX7_laysFar 121 = .ok (.invokestatic 63, 3) := by decide +kernel
theorem dX7_laysFar_124 : decode cX7_laysFar 124 = .ok (.istore 7, 2) := by decide +kernel
theorem dX7_laysFar_126 : decode cX7_laysFar 126 = .ok (.aload_n 0, 1) := by decide +kernel
theorem dX7_laysFar_127 : decode cX7_laysFar 127 = .ok (.getfield 26, 3) := by decide +kernel
theorem dX7_laysFar_130 : decode cX7_laysFar 130 = .ok (.iload 7, 2) := by decide +kernel
theorem dX7_laysFar_132 : decode cX7_laysFar 132 = .ok (.iaload, 1) := by decide +kernel
theorem dX7_laysFar_133 : decode cX7_laysFar 133 = .ok (.aload_n 0, 1) := by decide +kernel
theorem dX7_laysFar_134 : decode cX7_laysFar 134 = .ok (.getfield 20, 3) := by decide +kernel
theorem dX7_laysFar_137 : decode cX7_laysFar 137 = .ok (.iload 4, 2) := by decide +kernel
theorem dX7_laysFar_139 : decode cX7_laysFar 139 = .ok (.iaload, 1) := by decide +kernel
theorem dX7_laysFar_140 : decode cX7_laysFar 140 = .ok (.iadd, 1) := by decide +kernel
theorem dX7_laysFar_141 : decode cX7_laysFar 141 = .ok (.aload_n 0, 1) := by decide +kernel
theorem dX7_laysFar_142 : decode cX7_laysFar 142 = .ok (.getfield 26, 3) := by decide +kernel
theorem dX7_laysFar_145 : decode cX7_laysFar 145 = .ok (.iload 6, 2) := by decide +kernel
theorem dX7_laysFar_147 : decode cX7_laysFar 147 = .ok (.iaload, 1) := by decide +kernel
theorem dX7_laysFar_148 : decode cX7_laysFar 148 = .ok (.if_icmp .ge 27, 3) := by decide +kernel
theorem dX7_laysFar_151 : decode cX7_laysFar 151 = .ok (.aload_n 0, 1) := by decide +kernel
theorem dX7_laysFar_152 : decode cX7_laysFar 152 = .ok (.getfield 26, 3) := by decide +kernel
theorem dX7_laysFar_155 : decode cX7_laysFar 155 = .ok (.iload 6, 2) := by decide +kernel
theorem dX7_laysFar_157 : decode cX7_laysFar 157 = .ok (.aload_n 0, 1) := by decide +kernel
theorem dX7_laysFar_158 : decode cX7_laysFar 158 = .ok (.getfield 26, 3) := by decide +kernel
theorem dX7_laysFar_161 : decode cX7_laysFar 161 = .ok (.iload 7, 2) := by decide +kernel
theorem dX7_laysFar_163 : decode cX7_laysFar 163 = .ok (.iaload, 1) := by decide +kernel
theorem dX7_laysFar_164 : decode cX7_laysFar 164 = .ok (.aload_n 0, 1) := by decide +kernel
theorem dX7_laysFar_165 : decode cX7_laysFar 165 = .ok (.getfield 20, 3) := by decide +kernel
theorem dX7_laysFar_168 : decode cX7_laysFar 168 = .ok (.iload 4, 2) := by decide +kernel
theorem dX7_laysFar_170 : decode cX7_laysFar 170 = .ok (.iaload, 1) := by decide +kernel
theorem dX7_laysFar_171 : decode cX7_laysFar 171 = .ok (.iadd, 1) := by decide +kernel
theorem dX7_laysFar_172 : decode cX7_laysFar 172 = .ok (.iastore, 1) := by decide +kernel
theorem dX7_laysFar_173 : decode cX7_laysFar 173 = .ok (.iconst 1, 1) := by decide +kernel
theorem dX7_laysFar_174 : decode cX7_laysFar 174 = .ok (.istore_n 3, 1) := by decide +kernel
theorem dX7_laysFar_175 : decode cX7_laysFar 175 = .ok (.aload_n 0, 1) := by decide +kernel
theorem dX7_laysFar_176 : decode cX7_laysFar 176 = .ok (.getfield 26, 3) := by decide +kernel
theorem dX7_laysFar_179 : decode cX7_laysFar 179 = .ok (.iload 6, 2) := by decide +kernel
theorem dX7_laysFar_181 : decode cX7_laysFar 181 = .ok (.iaload, 1) := by decide +kernel
theorem dX7_laysFar_182 : decode cX7_laysFar 182 = .ok (.aload_n 0, 1) := by decide +kernel
theorem dX7_laysFar_183 : decode cX7_laysFar 183 = .ok (.getfield 20, 3) := by decide +kernel
theorem dX7_laysFar_186 : decode cX7_laysFar 186 = .ok (.iload 4, 2) := by decide +kernel
theorem dX7_laysFar_188 : decode cX7_laysFar 188 = .ok (.iaload, 1) := by decide +kernel
theorem dX7_laysFar_189 : decode cX7_laysFar 189 = .ok (.iadd, 1) := by decide +kernel
theorem dX7_laysFar_190 : decode cX7_laysFar 190 = .ok (.aload_n 0, 1) := by decide +kernel
theorem dX7_laysFar_191 : decode cX7_laysFar 191 = .ok (.getfield 26, 3) := by decide +kernel
theorem dX7_laysFar_194 : decode cX7_laysFar 194 = .ok (.iload 7, 2) := by decide +kernel
theorem dX7_laysFar_196 : decode cX7_laysFar 196 = .ok (.iaload, 1) := by decide +kernel
theorem dX7_laysFar_197 : decode cX7_laysFar 197 = .ok (.if_icmp .ge 27, 3) := by decide +kernel
theorem dX7_laysFar_200 : decode cX7_laysFar 200 = .ok (.aload_n 0, 1) := by decide +kernel
theorem dX7_laysFar_201 : decode cX7_laysFar 201 = .ok (.getfield 26, 3) := by decide +kernel
theorem dX7_laysFar_204 : decode cX7_laysFar 204 = .ok (.iload 7, 2) := by decide +kernel
theorem dX7_laysFar_206 : decode cX7_laysFar 206 = .ok (.aload_n 0, 1) := by decide +kernel
theorem dX7_laysFar_207 : decode cX7_laysFar 207 = .ok (.getfield 26, 3) := by decide +kernel
theorem dX7_laysFar_210 : decode cX7_laysFar 210 = .ok (.iload 6, 2) := by decide +kernel
theorem dX7_laysFar_212 : decode cX7_laysFar 212 = .ok (.iaload, 1) := by decide +kernel
theorem dX7_laysFar_213 : decode cX7_laysFar 213 = .ok (.aload_n 0, 1) := by decide +kernel
theorem dX7_laysFar_214 : decode cX7_laysFar 214 = .ok (.getfield 20, 3) := by decide +kernel
theorem dX7_laysFar_217 : decode cX7_laysFar 217 = .ok (.iload 4, 2) := by decide +kernel
theorem dX7_laysFar_219 : decode cX7_laysFar 219 = .ok (.iaload, 1) := by decide +kernel
theorem dX7_laysFar_220 : decode cX7_laysFar 220 = .ok (.iadd, 1) := by decide +kernel
theorem dX7_laysFar_221 : decode cX7_laysFar 221 = .ok (.iastore, 1) := by decide +kernel
theorem dX7_laysFar_222 : decode cX7_laysFar 222 = .ok (.iconst 1, 1) := by decide +kernel
theorem dX7_laysFar_223 : decode cX7_laysFar 223 = .ok (.istore_n 3, 1) := by decide +kernel
theorem dX7_laysFar_224 : decode cX7_laysFar 224 = .ok (.iinc 5 1, 3) := by decide +kernel
theorem dX7_laysFar_227 : decode cX7_laysFar 227 = .ok (.goto (-146), 3) := by decide +kernel
theorem dX7_laysFar_230 : decode cX7_laysFar 230 = .ok (.iinc 4 1, 3) := by decide +kernel
theorem dX7_laysFar_233 : decode cX7_laysFar 233 = .ok (.goto (-164), 3) := by decide +kernel
theorem dX7_laysFar_236 : decode cX7_laysFar 236 = .ok (.goto (-176), 3) := by decide +kernel
theorem dX7_laysFar_239 : decode cX7_laysFar 239 = .ok (.return_, 1) := by decide +kernel
theorem dX7_lays_0 : decode cX7_lays 0 = .ok (.aload_n 0, 1) := by decide +kernel
theorem dX7_lays_1 : decode cX7_lays 1 = .ok (.iconst 0, 1) := by decide +kernel
theorem dX7_lays_2 : decode cX7_lays 2 = .ok (.iconst (-1), 1) := by decide +kernel
theorem dX7_lays_3 : decode cX7_lays 3 = .ok (.invokevirtual 68, 3) := by decide +kernel
theorem dX7_lays_6 : decode cX7_lays 6 = .ok (.return_, 1) := by decide +kernel
theorem dX7_nextOf_0 : decode cX7_nextOf 0 = .ok (.iconst (-1), 1) := by decide +kernel
theorem dX7_nextOf_1 : decode cX7_nextOf 1 = .ok (.istore 5, 2) := by decide +kernel
theorem dX7_nextOf_3 : decode cX7_nextOf 3 = .ok (.aload_n 0, 1) := by decide +kernel
theorem dX7_nextOf_4 : decode cX7_nextOf 4 = .ok (.getfield 7, 3) := by decide +kernel
theorem dX7_nextOf_7 : decode cX7_nextOf 7 = .ok (.iconst 1, 1) := by decide +kernel
theorem dX7_nextOf_8 : decode cX7_nextOf 8 = .ok (.isub, 1) := by decide +kernel
theorem dX7_nextOf_9 : decode cX7_nextOf 9 = .ok (.istore 6, 2) := by decide +kernel
theorem dX7_nextOf_11 : decode cX7_nextOf 11 = .ok (.iload 6, 2) := by decide +kernel
theorem dX7_nextOf_13 : decode cX7_nextOf 13 = .ok (.ifCond .lt 106, 3) := by decide +kernel
theorem dX7_nextOf_16 : decode cX7_nextOf 16 = .ok (.aload_n 0, 1) := by decide +kernel
theorem dX7_nextOf_17 : decode cX7_nextOf 17 = .ok (.iload_n 2, 1) := by decide +kernel
theorem dX7_nextOf_18 : decode cX7_nextOf 18 = .ok (.iload 6, 2) := by decide +kernel
theorem dX7_nextOf_20 : decode cX7_nextOf 20 = .ok (.invokevirtual 56, 3) := by decide +kernel
theorem dX7_nextOf_23 : decode cX7_nextOf 23 = .ok (.istore 7, 2) := by decide +kernel
theorem dX7_nextOf_25 : decode cX7_nextOf 25 = .ok (.iload 7, 2) := by decide +kernel
theorem dX7_nextOf_27 : decode cX7_nextOf 27 = .ok (.ifCond .lt 69, 3) := by decide +kernel
theorem dX7_nextOf_30 : decode cX7_nextOf 30 = .ok (.iload 7, 2) := by decide +kernel
theorem dX7_nextOf_32 : decode cX7_nextOf 32 = .ok (.iload 4, 2) := by decide +kernel
theorem dX7_nextOf_34 : decode cX7_nextOf 34 = .ok (.if_icmp .eq 62, 3) := by decide +kernel
theorem dX7_nextOf_37 : decode cX7_nextOf 37 = .ok (.iload_n 2, 1) := by decide +kernel
theorem dX7_nextOf_38 : decode cX7_nextOf 38 = .ok (.iload_n 3, 1) := by decide +kernel
theorem dX7_nextOf_39 : decode cX7_nextOf 39 = .ok (.if_icmp .eq 57, 3) := by decide +kernel
theorem dX7_nextOf_42 : decode cX7_nextOf 42 = .ok (.aload_n 0, 1) := by decide +kernel
theorem dX7_nextOf_43 : decode cX7_nextOf 43 = .ok (.getfield 26, 3) := by decide +kernel
theorem dX7_nextOf_46 : decode cX7_nextOf 46 = .ok (.iload_n 1, 1) := by decide +kernel
theorem dX7_nextOf_47 : decode cX7_nextOf 47 = .ok (.iload_n 2, 1) := by decide +kernel
theorem dX7_nextOf_48 : decode cX7_nextOf 48 = .ok (.iload_n 3, 1) := by decide +kernel
theorem dX7_nextOf_49 : decode cX7_nextOf 49 = .ok (.invokestatic 63, 3) := by decide +kernel
theorem dX7_nextOf_52 : decode cX7_nextOf 52 = .ok (.iaload, 1) := by decide +kernel
theorem dX7_nextOf_53 : decode cX7_nextOf 53 = .ok (.ldc 67, 2) := by decide +kernel
theorem dX7_nextOf_55 : decode cX7_nextOf 55 = .ok (.if_icmp .ge 41, 3) := by decide +kernel
theorem dX7_nextOf_58 : decode cX7_nextOf 58 = .ok (.aload_n 0, 1) := by decide +kernel
theorem dX7_nextOf_59 : decode cX7_nextOf 59 = .ok (.getfield 20, 3) := by decide +kernel
theorem dX7_nextOf_62 : decode cX7_nextOf 62 = .ok (.iload 7, 2) := by decide +kernel
theorem dX7_nextOf_64 : decode cX7_nextOf 64 = .ok (.iaload, 1) := by decide +kernel
theorem dX7_nextOf_65 : decode cX7_nextOf 65 = .ok (.aload_n 0, 1) := by decide +kernel
theorem dX7_nextOf_66 : decode cX7_nextOf 66 = .ok (.getfield 26, 3) := by decide +kernel
theorem dX7_nextOf_69 : decode cX7_nextOf 69 = .ok (.iload_n 1, 1) := by decide +kernel
theorem dX7_nextOf_70 : decode cX7_nextOf 70 = .ok (.iload 6, 2) := by decide +kernel
theorem dX7_nextOf_72 : decode cX7_nextOf 72 = .ok (.iload_n 3, 1) := by decide +kernel
theorem dX7_nextOf_73 : decode cX7_nextOf 73 = .ok (.invokestatic 63, 3) := by decide +kernel
theorem dX7_nextOf_76 : decode cX7_nextOf 76 = .ok (.iaload, 1) := by decide +kernel
theorem dX7_nextOf_77 : decode cX7_nextOf 77 = .ok (.iadd, 1) := by decide +kernel
theorem dX7_nextOf_78 : decode cX7_nextOf 78 = .ok (.aload_n 0, 1) := by decide +kernel
theorem dX7_nextOf_79 : decode cX7_nextOf 79 = .ok (.getfield 26, 3) := by decide +kernel
theorem dX7_nextOf_82 : decode cX7_nextOf 82 = .ok (.iload_n 1, 1) := by decide +kernel
theorem dX7_nextOf_83 : decode cX7_nextOf 83 = .ok (.iload_n 2, 1) := by decide +kernel
theorem dX7_nextOf_84 : decode cX7_nextOf 84 = .ok (.iload_n 3, 1) := by decide +kernel
theorem dX7_nextOf_85 : decode cX7_nextOf 85 = .ok (.invokestatic 63, 3) := by decide +kernel
theorem dX7_nextOf_88 : decode cX7_nextOf 88 = .ok (.iaload, 1) := by decide +kernel
theorem dX7_nextOf_89 : decode cX7_nextOf 89 = .ok (.if_icmp .ne 7, 3) := by decide +kernel
theorem dX7_nextOf_92 : decode cX7_nextOf 92 = .ok (.iconst 1, 1) := by decide +kernel
