/-! decode rows, as printed -/
theorem dX7_tunnel_1 : decode cX7_tunnel 1 = .ok (.iconst 0, 1) := by decide +kernel
theorem dX7_tunnel_2 : decode cX7_tunnel 2 = .ok (.putfield 32, 3) := by decide +kernel
theorem dX7_tunnel_5 : decode cX7_tunnel 5 = .ok (.aload_n 0, 1) := by decide +kernel
theorem dX7_tunnel_6 : decode cX7_tunnel 6 = .ok (.invokevirtual 83, 3) := by decide +kernel
theorem dX7_tunnel_9 : decode cX7_tunnel 9 = .ok (.iload_n 3, 1) := by decide +kernel
theorem dX7_tunnel_10 : decode cX7_tunnel 10 = .ok (.iconst 0, 1) := by decide +kernel
theorem dX7_tunnel_11 : decode cX7_tunnel 11 = .ok (.iconst 2, 1) := by decide +kernel
theorem dX7_tunnel_12 : decode cX7_tunnel 12 = .ok (.invokestatic 42, 3) := by decide +kernel
theorem dX7_tunnel_15 : decode cX7_tunnel 15 = .ok (.ifCond .eq 12, 3) := by decide +kernel
theorem dX7_tunnel_18 : decode cX7_tunnel 18 = .ok (.aload_n 0, 1) := by decide +kernel
theorem dX7_tunnel_19 : decode cX7_tunnel 19 = .ok (.iload_n 1, 1) := by decide +kernel
theorem dX7_tunnel_20 : decode cX7_tunnel 20 = .ok (.iload_n 2, 1) := by decide +kernel
theorem dX7_tunnel_21 : decode cX7_tunnel 21 = .ok (.invokevirtual 110, 3) := by decide +kernel
theorem dX7_tunnel_24 : decode cX7_tunnel 24 = .ok (.ifCond .ne 5, 3) := by decide +kernel
theorem dX7_tunnel_27 : decode cX7_tunnel 27 = .ok (.iconst (-1), 1) := by decide +kernel
theorem dX7_tunnel_28 : decode cX7_tunnel 28 = .ok (.ireturn, 1) := by decide +kernel
theorem dX7_tunnel_29 : decode cX7_tunnel 29 = .ok (.iload_n 3, 1) := by decide +kernel
theorem dX7_tunnel_30 : decode cX7_tunnel 30 = .ok (.ifCond .ne 10, 3) := by decide +kernel
theorem dX7_tunnel_33 : decode cX7_tunnel 33 = .ok (.aload_n 0, 1) := by decide +kernel
theorem dX7_tunnel_34 : decode cX7_tunnel 34 = .ok (.iload_n 1, 1) := by decide +kernel
theorem dX7_tunnel_35 : decode cX7_tunnel 35 = .ok (.iload_n 2, 1) := by decide +kernel
theorem dX7_tunnel_36 : decode cX7_tunnel 36 = .ok (.invokevirtual 125, 3) := by decide +kernel
theorem dX7_tunnel_39 : decode cX7_tunnel 39 = .ok (.ireturn, 1) := by decide +kernel
theorem dX7_tunnel_40 : decode cX7_tunnel 40 = .ok (.aload_n 0, 1) := by decide +kernel
theorem dX7_tunnel_41 : decode cX7_tunnel 41 = .ok (.iload_n 1, 1) := by decide +kernel
theorem dX7_tunnel_42 : decode cX7_tunnel 42 = .ok (.iload_n 2, 1) := by decide +kernel
theorem dX7_tunnel_43 : decode cX7_tunnel 43 = .ok (.invokevirtual 128, 3) := by decide +kernel
theorem dX7_tunnel_46 : decode cX7_tunnel 46 = .ok (.istore 4, 2) := by decide +kernel
theorem dX7_tunnel_48 : decode cX7_tunnel 48 = .ok (.iload 4, 2) := by decide +kernel
theorem dX7_tunnel_50 : decode cX7_tunnel 50 = .ok (.ifCond .ge 7, 3) := by decide +kernel
theorem dX7_tunnel_53 : decode cX7_tunnel 53 = .ok (.iconst (-1), 1) := by decide +kernel
theorem dX7_tunnel_54 : decode cX7_tunnel 54 = .ok (.goto 21, 3) := by decide +kernel
theorem dX7_tunnel_57 : decode cX7_tunnel 57 = .ok (.iload_n 3, 1) := by decide +kernel
theorem dX7_tunnel_58 : decode cX7_tunnel 58 = .ok (.iconst 1, 1) := by decide +kernel
theorem dX7_tunnel_59 : decode cX7_tunnel 59 = .ok (.if_icmp .ne 11, 3) := by decide +kernel
theorem dX7_tunnel_62 : decode cX7_tunnel 62 = .ok (.iload 4, 2) := by decide +kernel
theorem dX7_tunnel_64 : decode cX7_tunnel 64 = .ok (.bipush 12, 2) := by decide +kernel
theorem dX7_tunnel_66 : decode cX7_tunnel 66 = .ok (.idiv, 1) := by decide +kernel
theorem dX7_tunnel_67 : decode cX7_tunnel 67 = .ok (.goto 8, 3) := by decide +kernel
theorem dX7_tunnel_70 : decode cX7_tunnel 70 = .ok (.iload 4, 2) := by decide +kernel
theorem dX7_tunnel_72 : decode cX7_tunnel 72 = .ok (.bipush 12, 2) := by decide +kernel
theorem dX7_tunnel_74 : decode cX7_tunnel 74 = .ok (.irem, 1) := by decide +kernel
theorem dX7_tunnel_75 : decode cX7_tunnel 75 = .ok (.ireturn, 1) := by decide +kernel
theorem dX7_repairOf_0 : decode cX7_repairOf 0 = .ok (.aload_n 0, 1) := by decide +kernel
theorem dX7_repairOf_1 : decode cX7_repairOf 1 = .ok (.iload_n 1, 1) := by decide +kernel
theorem dX7_repairOf_2 : decode cX7_repairOf 2 = .ok (.iload_n 2, 1) := by decide +kernel
theorem dX7_repairOf_3 : decode cX7_repairOf 3 = .ok (.invokevirtual 113, 3) := by decide +kernel
theorem dX7_repairOf_6 : decode cX7_repairOf 6 = .ok (.ifCond .lt 7, 3) := by decide +kernel
theorem dX7_repairOf_9 : decode cX7_repairOf 9 = .ok (.iconst 1, 1) := by decide +kernel
theorem dX7_repairOf_10 : decode cX7_repairOf 10 = .ok (.goto 30, 3) := by decide +kernel
theorem dX7_repairOf_13 : decode cX7_repairOf 13 = .ok (.aload_n 0, 1) := by decide +kernel
theorem dX7_repairOf_14 : decode cX7_repairOf 14 = .ok (.iload_n 1, 1) := by decide +kernel
theorem dX7_repairOf_15 : decode cX7_repairOf 15 = .ok (.iload_n 2, 1) := by decide +kernel
theorem dX7_repairOf_16 : decode cX7_repairOf 16 = .ok (.invokevirtual 125, 3) := by decide +kernel
theorem dX7_repairOf_19 : decode cX7_repairOf 19 = .ok (.ifCond .lt 7, 3) := by decide +kernel
theorem dX7_repairOf_22 : decode cX7_repairOf 22 = .ok (.iconst 2, 1) := by decide +kernel
theorem dX7_repairOf_23 : decode cX7_repairOf 23 = .ok (.goto 17, 3) := by decide +kernel
theorem dX7_repairOf_26 : decode cX7_repairOf 26 = .ok (.aload_n 0, 1) := by decide +kernel
theorem dX7_repairOf_27 : decode cX7_repairOf 27 = .ok (.iload_n 1, 1) := by decide +kernel
theorem dX7_repairOf_28 : decode cX7_repairOf 28 = .ok (.iload_n 2, 1) := by decide +kernel
theorem dX7_repairOf_29 : decode cX7_repairOf 29 = .ok (.invokevirtual 128, 3) := by decide +kernel
theorem dX7_repairOf_32 : decode cX7_repairOf 32 = .ok (.ifCond .lt 7, 3) := by decide +kernel
theorem dX7_repairOf_35 : decode cX7_repairOf 35 = .ok (.iconst 3, 1) := by decide +kernel
theorem dX7_repairOf_36 : decode cX7_repairOf 36 = .ok (.goto 4, 3) := by decide +kernel
theorem dX7_repairOf_39 : decode cX7_repairOf 39 = .ok (.iconst 0, 1) := by decide +kernel
theorem dX7_repairOf_40 : decode cX7_repairOf 40 = .ok (.ireturn, 1) := by decide +kernel
theorem dX7_repair_0 : decode cX7_repair 0 = .ok (.aload_n 0, 1) := by decide +kernel
theorem dX7_repair_1 : decode cX7_repair 1 = .ok (.iconst 0, 1) := by decide +kernel
theorem dX7_repair_2 : decode cX7_repair 2 = .ok (.putfield 32, 3) := by decide +kernel
theorem dX7_repair_5 : decode cX7_repair 5 = .ok (.aload_n 0, 1) := by decide +kernel
theorem dX7_repair_6 : decode cX7_repair 6 = .ok (.invokevirtual 83, 3) := by decide +kernel
theorem dX7_repair_9 : decode cX7_repair 9 = .ok (.aload_n 0, 1) := by decide +kernel
theorem dX7_repair_10 : decode cX7_repair 10 = .ok (.iload_n 1, 1) := by decide +kernel
theorem dX7_repair_11 : decode cX7_repair 11 = .ok (.iload_n 2, 1) := by decide +kernel
theorem dX7_repair_12 : decode cX7_repair 12 = .ok (.invokevirtual 110, 3) := by decide +kernel
theorem dX7_repair_15 : decode cX7_repair 15 = .ok (.ifCond .eq 12, 3) := by decide +kernel
theorem dX7_repair_18 : decode cX7_repair 18 = .ok (.aload_n 0, 1) := by decide +kernel
theorem dX7_repair_19 : decode cX7_repair 19 = .ok (.iload_n 1, 1) := by decide +kernel
theorem dX7_repair_20 : decode cX7_repair 20 = .ok (.iload_n 2, 1) := by decide +kernel
theorem dX7_repair_21 : decode cX7_repair 21 = .ok (.invokevirtual 131, 3) := by decide +kernel
theorem dX7_repair_24 : decode cX7_repair 24 = .ok (.goto 4, 3) := by decide +kernel
theorem dX7_repair_27 : decode cX7_repair 27 = .ok (.iconst (-1), 1) := by decide +kernel
theorem dX7_repair_28 : decode cX7_repair 28 = .ok (.ireturn, 1) := by decide +kernel
theorem dX7_moves_0 : decode cX7_moves 0 = .ok (.aload_n 0, 1) := by decide +kernel
theorem dX7_moves_1 : decode cX7_moves 1 = .ok (.aload_n 0, 1) := by decide +kernel
theorem dX7_moves_2 : decode cX7_moves 2 = .ok (.getfield 134, 3) := by decide +kernel
theorem dX7_moves_5 : decode cX7_moves 5 = .ok (.iload_n 1, 1) := by decide +kernel
theorem dX7_moves_6 : decode cX7_moves 6 = .ok (.invokevirtual 56, 3) := by decide +kernel
theorem dX7_moves_9 : decode cX7_moves 9 = .ok (.istore 4, 2) := by decide +kernel
theorem dX7_moves_11 : decode cX7_moves 11 = .ok (.aload_n 0, 1) := by decide +kernel
theorem dX7_moves_12 : decode cX7_moves 12 = .ok (.getfield 137, 3) := by decide +kernel
theorem dX7_moves_15 : decode cX7_moves 15 = .ok (.bipush 40, 2) := by decide +kernel
theorem dX7_moves_17 : decode cX7_moves 17 = .ok (.if_icmp .ne 11, 3) := by decide +kernel
theorem dX7_moves_20 : decode cX7_moves 20 = .ok (.aload_n 0, 1) := by decide +kernel
theorem dX7_moves_21 : decode cX7_moves 21 = .ok (.iconst 2, 1) := by decide +kernel
theorem dX7_moves_22 : decode cX7_moves 22 = .ok (.putfield 140, 3) := by decide +kernel
theorem dX7_moves_25 : decode cX7_moves 25 = .ok (.goto 83, 3) := by decide +kernel
theorem dX7_moves_28 : decode cX7_moves 28 = .ok (.aload_n 0, 1) := by decide +kernel
theorem dX7_moves_29 : decode cX7_moves 29 = .ok (.iload 4, 2) := by decide +kernel
theorem dX7_moves_31 : decode cX7_moves 31 = .ok (.iload_n 2, 1) := by decide +kernel
theorem dX7_moves_32 : decode cX7_moves 32 = .ok (.iload_n 3, 1) := by decide +kernel
theorem dX7_moves_33 : decode cX7_moves 33 = .ok (.invokevirtual 76, 3) := by decide +kernel
theorem dX7_moves_36 : decode cX7_moves 36 = .ok (.ifCond .eq 11, 3) := by decide +kernel
theorem dX7_moves_39 : decode cX7_moves 39 = .ok (.aload_n 0, 1) := by decide +kernel
theorem dX7_moves_40 : decode cX7_moves 40 = .ok (.iconst 1, 1) := by decide +kernel
theorem dX7_moves_41 : decode cX7_moves 41 = .ok (.putfield 140, 3) := by decide +kernel
theorem dX7_moves_44 : decode cX7_moves 44 = .ok (.goto 64, 3) := by decide +kernel
theorem dX7_moves_47 : decode cX7_moves 47 = .ok (.aload_n 0, 1) := by decide +kernel
theorem dX7_moves_48 : decode cX7_moves 48 = .ok (.iload_n 1, 1) := by decide +kernel
theorem dX7_moves_49 : decode cX7_moves 49 = .ok (.putfield 134, 3) := by decide +kernel
theorem dX7_moves_52 : decode cX7_moves 52 = .ok (.aload_n 0, 1) := by decide +kernel
theorem dX7_moves_53 : decode cX7_moves 53 = .ok (.dup, 1) := by decide +kernel
theorem dX7_moves_54 : decode cX7_moves 54 = .ok (.getfield 137, 3) := by decide +kernel
theorem dX7_moves_57 : decode cX7_moves 57 = .ok (.iconst 1, 1) := by decide +kernel
theorem dX7_moves_58 : decode cX7_moves 58 = .ok (.iadd, 1) := by decide +kernel
theorem dX7_moves_59 : decode cX7_moves 59 = .ok (.putfield 137, 3) := by decide +kernel
theorem dX7_moves_62 : decode cX7_moves 62 = .ok (.aload_n 0, 1) := by decide +kernel
theorem dX7_moves_63 : decode cX7_moves 63 = .ok (.getfield 29, 3) := by decide +kernel
theorem dX7_moves_66 : decode cX7_moves 66 = .ok (.aload_n 0, 1) := by decide +kernel
theorem dX7_moves_67 : decode cX7_moves 67 = .ok (.getfield 137, 3) := by decide +kernel
theorem dX7_moves_70 : decode cX7_moves 70 = .ok (.iload_n 1, 1) := by decide +kernel
theorem dX7_moves_71 : decode cX7_moves 71 = .ok (.iastore, 1) := by decide +kernel
theorem dX7_moves_72 : decode cX7_moves 72 = .ok (.aload_n 0, 1) := by decide +kernel
theorem dX7_moves_73 : decode cX7_moves 73 = .ok (.dup, 1) := by decide +kernel
theorem dX7_moves_74 : decode cX7_moves 74 = .ok (.getfield 143, 3) := by decide +kernel
theorem dX7_moves_77 : decode cX7_moves 77 = .ok (.aload_n 0, 1) := by decide +kernel
theorem dX7_moves_78 : decode cX7_moves 78 = .ok (.getfield 20, 3) := by decide +kernel
theorem dX7_moves_81 : decode cX7_moves 81 = .ok (.iload 4, 2) := by decide +kernel
theorem dX7_moves_83 : decode cX7_moves 83 = .ok (.iaload, 1) := by decide +kernel
theorem dX7_moves_84 : decode cX7_moves 84 = .ok (.iadd, 1) := by decide +kernel
theorem dX7_moves_85 : decode cX7_moves 85 = .ok (.putfield 143, 3) := by decide +kernel
theorem dX7_moves_88 : decode cX7_moves 88 = .ok (.aload_n 0, 1) := by decide +kernel
theorem dX7_moves_89 : decode cX7_moves 89 = .ok (.aload_n 0, 1) := by decide +kernel
theorem dX7_moves_90 : decode cX7_moves 90 = .ok (.getfield 134, 3) := by decide +kernel
theorem dX7_moves_93 : decode cX7_moves 93 = .ok (.aload_n 0, 1) := by decide +kernel
theorem dX7_moves_94 : decode cX7_moves 94 = .ok (.getfield 146, 3) := by decide +kernel
theorem dX7_moves_97 : decode cX7_moves 97 = .ok (.if_icmp .ne 7, 3) := by decide +kernel
theorem dX7_moves_100 : decode cX7_moves 100 = .ok (.iconst 0, 1) := by decide +kernel
theorem dX7_moves_101 : decode cX7_moves 101 = .ok (.goto 4, 3) := by decide +kernel
theorem dX7_moves_104 : decode cX7_moves 104 = .ok (.iconst (-1), 1) := by decide +kernel
theorem dX7_moves_105 : decode cX7_moves 105 = .ok (.putfield 140, 3) := by decide +kernel
theorem dX7_moves_108 : decode cX7_moves 108 = .ok (.return_, 1) := by decide +kernel
theorem dX7_lowestBy_0 : decode cX7_lowestBy 0 = .ok (.aload_n 0, 1) := by decide +kernel
theorem dX7_lowestBy_1 : decode cX7_lowestBy 1 = .ok (.iconst 0, 1) := by decide +kernel
theorem dX7_lowestBy_2 : decode cX7_lowestBy 2 = .ok (.iload_n 1, 1) := by decide +kernel
theorem dX7_lowestBy_3 : decode cX7_lowestBy 3 = .ok (.iload_n 2, 1) := by decide +kernel
theorem dX7_lowestBy_4 : decode cX7_lowestBy 4 = .ok (.iconst (-1), 1) := by decide +kernel
theorem dX7_lowestBy_5 : decode cX7_lowestBy 5 = .ok (.invokevirtual 72, 3) := by decide +kernel
theorem dX7_lowestBy_8 : decode cX7_lowestBy 8 = .ok (.istore 4, 2) := by decide +kernel
theorem dX7_lowestBy_10 : decode cX7_lowestBy 10 = .ok (.iconst (-1), 1) := by decide +kernel
theorem dX7_lowestBy_11 : decode cX7_lowestBy 11 = .ok (.istore 5, 2) := by decide +kernel
theorem dX7_lowestBy_13 : decode cX7_lowestBy 13 = .ok (.aload_n 0, 1) := by decide +kernel
theorem dX7_lowestBy_14 : decode cX7_lowestBy 14 = .ok (.getfield 7, 3) := by decide +kernel
theorem dX7_lowestBy_17 : decode cX7_lowestBy 17 = .ok (.iconst 1, 1) := by decide +kernel
theorem dX7_lowestBy_18 : decode cX7_lowestBy 18 = .ok (.isub, 1) := by decide +kernel
theorem dX7_lowestBy_19 : decode cX7_lowestBy 19 = .ok (.istore 6, 2) := by decide +kernel
theorem dX7_lowestBy_21 : decode cX7_lowestBy 21 = .ok (.iload 6, 2) := by decide +kernel
theorem dX7_lowestBy_23 : decode cX7_lowestBy 23 = .ok (.ifCond .lt 51, 3) := by decide +kernel
theorem dX7_lowestBy_26 : decode cX7_lowestBy 26 = .ok (.iload 6, 2) := by decide +kernel
theorem dX7_lowestBy_28 : decode cX7_lowestBy 28 = .ok (.iload 4, 2) := by decide +kernel
theorem dX7_lowestBy_30 : decode cX7_lowestBy 30 = .ok (.if_icmp .eq 34, 3) := by decide +kernel
theorem dX7_lowestBy_33 : decode cX7_lowestBy 33 = .ok (.aload_n 0, 1) := by decide +kernel
theorem dX7_lowestBy_34 : decode cX7_lowestBy 34 = .ok (.iload_n 1, 1) := by decide +kernel
theorem dX7_lowestBy_35 : decode cX7_lowestBy 35 = .ok (.iload 6, 2) := by decide +kernel
theorem dX7_lowestBy_37 : decode cX7_lowestBy 37 = .ok (.invokevirtual 56, 3) := by decide +kernel
theorem dX7_lowestBy_40 : decode cX7_lowestBy 40 = .ok (.ifCond .lt 24, 3) := by decide +kernel
theorem dX7_lowestBy_43 : decode cX7_lowestBy 43 = .ok (.aload_n 0, 1) := by decide +kernel
theorem dX7_lowestBy_44 : decode cX7_lowestBy 44 = .ok (.iload_n 1, 1) := by decide +kernel
theorem dX7_lowestBy_45 : decode cX7_lowestBy 45 = .ok (.iload_n 2, 1) := by decide +kernel
theorem dX7_lowestBy_46 : decode cX7_lowestBy 46 = .ok (.iload 6, 2) := by decide +kernel
theorem dX7_lowestBy_48 : decode cX7_lowestBy 48 = .ok (.invokevirtual 116, 3) := by decide +kernel
theorem dX7_lowestBy_51 : decode cX7_lowestBy 51 = .ok (.iload_n 3, 1) := by decide +kernel
theorem dX7_lowestBy_52 : decode cX7_lowestBy 52 = .ok (.ishr, 1) := by decide +kernel
theorem dX7_lowestBy_53 : decode cX7_lowestBy 53 = .ok (.iconst 1, 1) := by decide +kernel
theorem dX7_lowestBy_54 : decode cX7_lowestBy 54 = .ok (.iand, 1) := by decide +kernel
theorem dX7_lowestBy_55 : decode cX7_lowestBy 55 = .ok (.iconst 1, 1) := by decide +kernel
theorem dX7_lowestBy_56 : decode cX7_lowestBy 56 = .ok (.if_icmp .ne 8, 3) := by decide +kernel
theorem dX7_lowestBy_59 : decode cX7_lowestBy 59 = .ok (.iload 6, 2) := by decide +kernel
theorem dX7_lowestBy_61 : decode cX7_lowestBy 61 = .ok (.goto 5, 3) := by decide +kernel
theorem dX7_lowestBy_64 : decode cX7_lowestBy 64 = .ok (.iload 5, 2) := by decide +kernel
theorem dX7_lowestBy_66 : decode cX7_lowestBy 66 = .ok (.istore 5, 2) := by decide +kernel
theorem dX7_lowestBy_68 : decode cX7_lowestBy 68 = .ok (.iinc 6 (-1), 3) := by decide +kernel
theorem dX7_lowestBy_71 : decode cX7_lowestBy 71 = .ok (.goto (-50), 3) := by decide +kernel
theorem dX7_lowestBy_74 : decode cX7_lowestBy 74 = .ok (.iload 5, 2) := by decide +kernel
theorem dX7_lowestBy_76 : decode cX7_lowestBy 76 = .ok (.ireturn, 1) := by decide +kernel
theorem dX7_tunnels_0 : decode cX7_tunnels 0 = .ok (.aload_n 0, 1) := by decide +kernel
theorem dX7_tunnels_1 : decode cX7_tunnels 1 = .ok (.iload_n 1, 1) := by decide +kernel
theorem dX7_tunnels_2 : decode cX7_tunnels 2 = .ok (.aload_n 0, 1) := by decide +kernel
theorem dX7_tunnels_3 : decode cX7_tunnels 3 = .ok (.getfield 146, 3) := by decide +kernel
theorem dX7_tunnels_6 : decode cX7_tunnels 6 = .ok (.iload_n 1, 1) := by decide +kernel
theorem dX7_tunnels_7 : decode cX7_tunnels 7 = .ok (.invokevirtual 116, 3) := by decide +kernel
theorem dX7_tunnels_10 : decode cX7_tunnels 10 = .ok (.iload_n 2, 1) := by decide +kernel
theorem dX7_tunnels_11 : decode cX7_tunnels 11 = .ok (.ishr, 1) := by decide +kernel
theorem dX7_tunnels_12 : decode cX7_tunnels 12 = .ok (.iconst 1, 1) := by decide +kernel
theorem dX7_tunnels_13 : decode cX7_tunnels 13 = .ok (.iand, 1) := by decide +kernel
theorem dX7_tunnels_14 : decode cX7_tunnels 14 = .ok (.ifCond .ne 20, 3) := by decide +kernel
theorem dX7_tunnels_17 : decode cX7_tunnels 17 = .ok (.aload_n 0, 1) := by decide +kernel
theorem dX7_tunnels_18 : decode cX7_tunnels 18 = .ok (.aload_n 0, 1) := by decide +kernel
theorem dX7_tunnels_19 : decode cX7_tunnels 19 = .ok (.iload_n 1, 1) := by decide +kernel
theorem dX7_tunnels_20 : decode cX7_tunnels 20 = .ok (.aload_n 0, 1) := by decide +kernel
theorem dX7_tunnels_21 : decode cX7_tunnels 21 = .ok (.getfield 146, 3) := by decide +kernel
theorem dX7_tunnels_24 : decode cX7_tunnels 24 = .ok (.iload_n 2, 1) := by decide +kernel
theorem dX7_tunnels_25 : decode cX7_tunnels 25 = .ok (.invokevirtual 149, 3) := by decide +kernel
theorem dX7_tunnels_28 : decode cX7_tunnels 28 = .ok (.iload_n 3, 1) := by decide +kernel
theorem dX7_tunnels_29 : decode cX7_tunnels 29 = .ok (.iload 4, 2) := by decide +kernel
theorem dX7_tunnels_31 : decode cX7_tunnels 31 = .ok (.invokevirtual 152, 3) := by decide +kernel
theorem dX7_tunnels_34 : decode cX7_tunnels 34 = .ok (.aload_n 0, 1) := by decide +kernel
theorem dX7_tunnels_35 : decode cX7_tunnels 35 = .ok (.getfield 140, 3) := by decide +kernel
theorem dX7_tunnels_38 : decode cX7_tunnels 38 = .ok (.ifCond .ge 32, 3) := by decide +kernel
theorem dX7_tunnels_41 : decode cX7_tunnels 41 = .ok (.aload_n 0, 1) := by decide +kernel
theorem dX7_tunnels_42 : decode cX7_tunnels 42 = .ok (.getfield 134, 3) := by decide +kernel
theorem dX7_tunnels_45 : decode cX7_tunnels 45 = .ok (.iload_n 2, 1) := by decide +kernel
theorem dX7_tunnels_46 : decode cX7_tunnels 46 = .ok (.if_icmp .eq 24, 3) := by decide +kernel
theorem dX7_tunnels_49 : decode cX7_tunnels 49 = .ok (.aload_n 0, 1) := by decide +kernel
theorem dX7_tunnels_50 : decode cX7_tunnels 50 = .ok (.aload_n 0, 1) := by decide +kernel
theorem dX7_tunnels_51 : decode cX7_tunnels 51 = .ok (.iconst 0, 1) := by decide +kernel
theorem dX7_tunnels_52 : decode cX7_tunnels 52 = .ok (.aload_n 0, 1) := by decide +kernel
theorem dX7_tunnels_53 : decode cX7_tunnels 53 = .ok (.getfield 134, 3) := by decide +kernel
theorem dX7_tunnels_56 : decode cX7_tunnels 56 = .ok (.iload_n 2, 1) := by decide +kernel
theorem dX7_tunnels_57 : decode cX7_tunnels 57 = .ok (.iconst (-1), 1) := by decide +kernel
theorem dX7_tunnels_58 : decode cX7_tunnels 58 = .ok (.invokevirtual 72, 3) := by decide +kernel
theorem dX7_tunnels_61 : decode cX7_tunnels 61 = .ok (.iload_n 3, 1) := by decide +kernel
theorem dX7_tunnels_62 : decode cX7_tunnels 62 = .ok (.iload 4, 2) := by decide +kernel
theorem dX7_tunnels_64 : decode cX7_tunnels 64 = .ok (.invokevirtual 152, 3) := by decide +kernel
theorem dX7_tunnels_67 : decode cX7_tunnels 67 = .ok (.goto (-33), 3) := by decide +kernel
theorem dX7_tunnels_70 : decode cX7_tunnels 70 = .ok (.return_, 1) := by decide +kernel
theorem dX7_repairs_0 : decode cX7_repairs 0 = .ok (.aload_n 0, 1) := by decide +kernel
theorem dX7_repairs_1 : decode cX7_repairs 1 = .ok (.iload_n 1, 1) := by decide +kernel
theorem dX7_repairs_2 : decode cX7_repairs 2 = .ok (.putfield 156, 3) := by decide +kernel
theorem dX7_repairs_5 : decode cX7_repairs 5 = .ok (.aload_n 0, 1) := by decide +kernel
theorem dX7_repairs_6 : decode cX7_repairs 6 = .ok (.iload_n 1, 1) := by decide +kernel
theorem dX7_repairs_7 : decode cX7_repairs 7 = .ok (.aload_n 0, 1) := by decide +kernel
theorem dX7_repairs_8 : decode cX7_repairs 8 = .ok (.getfield 146, 3) := by decide +kernel
theorem dX7_repairs_11 : decode cX7_repairs 11 = .ok (.invokevirtual 131, 3) := by decide +kernel
theorem dX7_repairs_14 : decode cX7_repairs 14 = .ok (.istore 4, 2) := by decide +kernel
theorem dX7_repairs_16 : decode cX7_repairs 16 = .ok (.iload 4, 2) := by decide +kernel
theorem dX7_repairs_18 : decode cX7_repairs 18 = .ok (.ifCond .ne 11, 3) := by decide +kernel
theorem dX7_repairs_21 : decode cX7_repairs 21 = .ok (.aload_n 0, 1) := by decide +kernel
theorem dX7_repairs_22 : decode cX7_repairs 22 = .ok (.iconst 1, 1) := by decide +kernel
theorem dX7_repairs_23 : decode cX7_repairs 23 = .ok (.putfield 140, 3) := by decide +kernel
theorem dX7_repairs_26 : decode cX7_repairs 26 = .ok (.goto 93, 3) := by decide +kernel
theorem dX7_repairs_29 : decode cX7_repairs 29 = .ok (.iload 4, 2) := by decide +kernel
theorem dX7_repairs_31 : decode cX7_repairs 31 = .ok (.iconst 1, 1) := by decide +kernel
theorem dX7_repairs_32 : decode cX7_repairs 32 = .ok (.if_icmp .ne 21, 3) := by decide +kernel
theorem dX7_repairs_35 : decode cX7_repairs 35 = .ok (.aload_n 0, 1) := by decide +kernel
theorem dX7_repairs_36 : decode cX7_repairs 36 = .ok (.aload_n 0, 1) := by decide +kernel
theorem dX7_repairs_37 : decode cX7_repairs 37 = .ok (.iload_n 1, 1) := by decide +kernel
theorem dX7_repairs_38 : decode cX7_repairs 38 = .ok (.aload_n 0, 1) := by decide +kernel
theorem dX7_repairs_39 : decode cX7_repairs 39 = .ok (.getfield 146, 3) := by decide +kernel
theorem dX7_repairs_42 : decode cX7_repairs 42 = .ok (.invokevirtual 113, 3) := by decide +kernel
theorem dX7_repairs_45 : decode cX7_repairs 45 = .ok (.iload_n 2, 1) := by decide +kernel
theorem dX7_repairs_46 : decode cX7_repairs 46 = .ok (.iload_n 3, 1) := by decide +kernel
theorem dX7_repairs_47 : decode cX7_repairs 47 = .ok (.invokevirtual 152, 3) := by decide +kernel
theorem dX7_repairs_50 : decode cX7_repairs 50 = .ok (.goto 69, 3) := by decide +kernel
theorem dX7_repairs_53 : decode cX7_repairs 53 = .ok (.iload 4, 2) := by decide +kernel
theorem dX7_repairs_55 : decode cX7_repairs 55 = .ok (.iconst 2, 1) := by decide +kernel
theorem dX7_repairs_56 : decode cX7_repairs 56 = .ok (.if_icmp .ne 22, 3) := by decide +kernel
theorem dX7_repairs_59 : decode cX7_repairs 59 = .ok (.aload_n 0, 1) := by decide +kernel
theorem dX7_repairs_60 : decode cX7_repairs 60 = .ok (.iload_n 1, 1) := by decide +kernel
theorem dX7_repairs_61 : decode cX7_repairs 61 = .ok (.aload_n 0, 1) := by decide +kernel
theorem dX7_repairs_62 : decode cX7_repairs 62 = .ok (.iload_n 1, 1) := by decide +kernel
theorem dX7_repairs_63 : decode cX7_repairs 63 = .ok (.aload_n 0, 1) := by decide +kernel
theorem dX7_repairs_64 : decode cX7_repairs 64 = .ok (.getfield 146, 3) := by decide +kernel
theorem dX7_repairs_67 : decode cX7_repairs 67 = .ok (.invokevirtual 125, 3) := by decide +kernel
theorem dX7_repairs_70 : decode cX7_repairs 70 = .ok (.iload_n 2, 1) := by decide +kernel
theorem dX7_repairs_71 : decode cX7_repairs 71 = .ok (.iload_n 3, 1) := by decide +kernel
theorem dX7_repairs_72 : decode cX7_repairs 72 = .ok (.invokevirtual 159, 3) := by decide +kernel
theorem dX7_repairs_75 : decode cX7_repairs 75 = .ok (.goto 44, 3) := by decide +kernel
theorem dX7_repairs_78 : decode cX7_repairs 78 = .ok (.aload_n 0, 1) := by decide +kernel
theorem dX7_repairs_79 : decode cX7_repairs 79 = .ok (.iload_n 1, 1) := by decide +kernel
theorem dX7_repairs_80 : decode cX7_repairs 80 = .ok (.aload_n 0, 1) := by decide +kernel
theorem dX7_repairs_81 : decode cX7_repairs 81 = .ok (.getfield 146, 3) := by decide +kernel
theorem dX7_repairs_84 : decode cX7_repairs 84 = .ok (.invokevirtual 128, 3) := by decide +kernel
theorem dX7_repairs_87 : decode cX7_repairs 87 = .ok (.istore 5, 2) := by decide +kernel
theorem dX7_repairs_89 : decode cX7_repairs 89 = .ok (.aload_n 0, 1) := by decide +kernel
theorem dX7_repairs_90 : decode cX7_repairs 90 = .ok (.iload_n 1, 1) := by decide +kernel
theorem dX7_repairs_91 : decode cX7_repairs 91 = .ok (.iload 5, 2) := by decide +kernel
theorem dX7_repairs_93 : decode cX7_repairs 93 = .ok (.bipush 12, 2) := by decide +kernel
theorem dX7_repairs_95 : decode cX7_repairs 95 = .ok (.idiv, 1) := by decide +kernel
theorem dX7_repairs_96 : decode cX7_repairs 96 = .ok (.iload_n 2, 1) := by decide +kernel
theorem dX7_repairs_97 : decode cX7_repairs 97 = .ok (.iload_n 3, 1) := by decide +kernel
theorem dX7_repairs_98 : decode cX7_repairs 98 = .ok (.invokevirtual 159, 3) := by decide +kernel
theorem dX7_repairs_101 : decode cX7_repairs 101 = .ok (.aload_n 0, 1) := by decide +kernel
theorem dX7_repairs_102 : decode cX7_repairs 102 = .ok (.getfield 140, 3) := by decide +kernel
theorem dX7_repairs_105 : decode cX7_repairs 105 = .ok (.ifCond .ge 14, 3) := by decide +kernel
theorem dX7_repairs_108 : decode cX7_repairs 108 = .ok (.aload_n 0, 1) := by decide +kernel
theorem dX7_repairs_109 : decode cX7_repairs 109 = .ok (.iload 5, 2) := by decide +kernel
theorem dX7_repairs_111 : decode cX7_repairs 111 = .ok (.bipush 12, 2) := by decide +kernel
theorem dX7_repairs_113 : decode cX7_repairs 113 = .ok (.irem, 1) := by decide +kernel
theorem dX7_repairs_114 : decode cX7_repairs 114 = .ok (.iload_n 2, 1) := by decide +kernel
theorem dX7_repairs_115 : decode cX7_repairs 115 = .ok (.iload_n 3, 1) := by decide +kernel
theorem dX7_repairs_116 : decode cX7_repairs 116 = .ok (.invokevirtual 152, 3) := by decide +kernel
theorem dX7_repairs_119 : decode cX7_repairs 119 = .ok (.return_, 1) := by decide +kernel
theorem dX7_sends_0 : decode cX7_sends 0 = .ok (.aload_n 0, 1) := by decide +kernel
theorem dX7_sends_1 : decode cX7_sends 1 = .ok (.iload_n 1, 1) := by decide +kernel
theorem dX7_sends_2 : decode cX7_sends 2 = .ok (.putfield 134, 3) := by decide +kernel
theorem dX7_sends_5 : decode cX7_sends 5 = .ok (.aload_n 0, 1) := by decide +kernel
theorem dX7_sends_6 : decode cX7_sends 6 = .ok (.iload_n 2, 1) := by decide +kernel
theorem dX7_sends_7 : decode cX7_sends 7 = .ok (.putfield 146, 3) := by decide +kernel
theorem dX7_sends_10 : decode cX7_sends 10 = .ok (.aload_n 0, 1) := by decide +kernel
theorem dX7_sends_11 : decode cX7_sends 11 = .ok (.iconst (-1), 1) := by decide +kernel
theorem dX7_sends_12 : decode cX7_sends 12 = .ok (.putfield 140, 3) := by decide +kernel
theorem dX7_sends_15 : decode cX7_sends 15 = .ok (.aload_n 0, 1) := by decide +kernel
theorem dX7_sends_16 : decode cX7_sends 16 = .ok (.iconst 0, 1) := by decide +kernel
theorem dX7_sends_17 : decode cX7_sends 17 = .ok (.putfield 137, 3) := by decide +kernel
theorem dX7_sends_20 : decode cX7_sends 20 = .ok (.aload_n 0, 1) := by decide +kernel
theorem dX7_sends_21 : decode cX7_sends 21 = .ok (.iconst (-1), 1) := by decide +kernel
theorem dX7_sends_22 : decode cX7_sends 22 = .ok (.putfield 156, 3) := by decide +kernel
theorem dX7_sends_25 : decode cX7_sends 25 = .ok (.aload_n 0, 1) := by decide +kernel
theorem dX7_sends_26 : decode cX7_sends 26 = .ok (.iconst 0, 1) := by decide +kernel
theorem dX7_sends_27 : decode cX7_sends 27 = .ok (.putfield 143, 3) := by decide +kernel
theorem dX7_sends_30 : decode cX7_sends 30 = .ok (.aload_n 0, 1) := by decide +kernel
theorem dX7_sends_31 : decode cX7_sends 31 = .ok (.getfield 29, 3) := by decide +kernel
theorem dX7_sends_34 : decode cX7_sends 34 = .ok (.iconst 0, 1) := by decide +kernel
theorem dX7_sends_35 : decode cX7_sends 35 = .ok (.iload_n 1, 1) := by decide +kernel
theorem dX7_sends_36 : decode cX7_sends 36 = .ok (.iastore, 1) := by decide +kernel
theorem dX7_sends_37 : decode cX7_sends 37 = .ok (.aload_n 0, 1) := by decide +kernel
theorem dX7_sends_38 : decode cX7_sends 38 = .ok (.getfield 140, 3) := by decide +kernel
theorem dX7_sends_41 : decode cX7_sends 41 = .ok (.ifCond .ge 107, 3) := by decide +kernel
theorem dX7_sends_44 : decode cX7_sends 44 = .ok (.aload_n 0, 1) := by decide +kernel
theorem dX7_sends_45 : decode cX7_sends 45 = .ok (.iconst 0, 1) := by decide +kernel
theorem dX7_sends_46 : decode cX7_sends 46 = .ok (.aload_n 0, 1) := by decide +kernel
theorem dX7_sends_47 : decode cX7_sends 47 = .ok (.getfield 134, 3) := by decide +kernel
theorem dX7_sends_50 : decode cX7_sends 50 = .ok (.iload_n 2, 1) := by decide +kernel
theorem dX7_sends_51 : decode cX7_sends 51 = .ok (.iconst (-1), 1) := by decide +kernel
theorem dX7_sends_52 : decode cX7_sends 52 = .ok (.invokevirtual 72, 3) := by decide +kernel
theorem dX7_sends_55 : decode cX7_sends 55 = .ok (.istore 5, 2) := by decide +kernel
theorem dX7_sends_57 : decode cX7_sends 57 = .ok (.aload_n 0, 1) := by decide +kernel
theorem dX7_sends_58 : decode cX7_sends 58 = .ok (.getfield 137, 3) := by decide +kernel
theorem dX7_sends_61 : decode cX7_sends 61 = .ok (.bipush 40, 2) := by decide +kernel
theorem dX7_sends_63 : decode cX7_sends 63 = .ok (.if_icmp .ne 11, 3) := by decide +kernel
theorem dX7_sends_66 : decode cX7_sends 66 = .ok (.aload_n 0, 1) := by decide +kernel
theorem dX7_sends_67 : decode cX7_sends 67 = .ok (.iconst 2, 1) := by decide +kernel
theorem dX7_sends_68 : decode cX7_sends 68 = .ok (.putfield 140, 3) := by decide +kernel
theorem dX7_sends_71 : decode cX7_sends 71 = .ok (.goto 74, 3) := by decide +kernel
theorem dX7_sends_74 : decode cX7_sends 74 = .ok (.iload 5, 2) := by decide +kernel
theorem dX7_sends_76 : decode cX7_sends 76 = .ok (.ifCond .ge 11, 3) := by decide +kernel
theorem dX7_sends_79 : decode cX7_sends 79 = .ok (.aload_n 0, 1) := by decide +kernel
theorem dX7_sends_80 : decode cX7_sends 80 = .ok (.iconst 1, 1) := by decide +kernel
theorem dX7_sends_81 : decode cX7_sends 81 = .ok (.putfield 140, 3) := by decide +kernel
theorem dX7_sends_84 : decode cX7_sends 84 = .ok (.goto 61, 3) := by decide +kernel
theorem dX7_sends_87 : decode cX7_sends 87 = .ok (.aload_n 0, 1) := by decide +kernel
theorem dX7_sends_88 : decode cX7_sends 88 = .ok (.aload_n 0, 1) := by decide +kernel
theorem dX7_sends_89 : decode cX7_sends 89 = .ok (.aload_n 0, 1) := by decide +kernel
theorem dX7_sends_90 : decode cX7_sends 90 = .ok (.getfield 134, 3) := by decide +kernel
theorem dX7_sends_93 : decode cX7_sends 93 = .ok (.iload 5, 2) := by decide +kernel
theorem dX7_sends_95 : decode cX7_sends 95 = .ok (.invokevirtual 56, 3) := by decide +kernel
theorem dX7_sends_98 : decode cX7_sends 98 = .ok (.iload_n 3, 1) := by decide +kernel
theorem dX7_sends_99 : decode cX7_sends 99 = .ok (.iload 4, 2) := by decide +kernel
theorem dX7_sends_101 : decode cX7_sends 101 = .ok (.invokevirtual 76, 3) := by decide +kernel
theorem dX7_sends_104 : decode cX7_sends 104 = .ok (.ifCond .ne 15, 3) := by decide +kernel
theorem dX7_sends_107 : decode cX7_sends 107 = .ok (.aload_n 0, 1) := by decide +kernel
theorem dX7_sends_108 : decode cX7_sends 108 = .ok (.iload 5, 2) := by decide +kernel
theorem dX7_sends_110 : decode cX7_sends 110 = .ok (.iload_n 3, 1) := by decide +kernel
theorem dX7_sends_111 : decode cX7_sends 111 = .ok (.iload 4, 2) := by decide +kernel
theorem dX7_sends_113 : decode cX7_sends 113 = .ok (.invokevirtual 152, 3) := by decide +kernel
theorem dX7_sends_116 : decode cX7_sends 116 = .ok (.goto 29, 3) := by decide +kernel
theorem dX7_sends_119 : decode cX7_sends 119 = .ok (.aload_n 0, 1) := by decide +kernel
theorem dX7_sends_120 : decode cX7_sends 120 = .ok (.getfield 156, 3) := by decide +kernel
theorem dX7_sends_123 : decode cX7_sends 123 = .ok (.ifCond .lt 11, 3) := by decide +kernel
theorem dX7_sends_126 : decode cX7_sends 126 = .ok (.aload_n 0, 1) := by decide +kernel
theorem dX7_sends_127 : decode cX7_sends 127 = .ok (.iconst 1, 1) := by decide +kernel
theorem dX7_sends_128 : decode cX7_sends 128 = .ok (.putfield 140, 3) := by decide +kernel
theorem dX7_sends_131 : decode cX7_sends 131 = .ok (.goto 14, 3) := by decide +kernel
theorem dX7_sends_134 : decode cX7_sends 134 = .ok (.aload_n 0, 1) := by decide +kernel
theorem dX7_sends_135 : decode cX7_sends 135 = .ok (.aload_n 0, 1) := by decide +kernel
theorem dX7_sends_136 : decode cX7_sends 136 = .ok (.getfield 134, 3) := by decide +kernel
theorem dX7_sends_139 : decode cX7_sends 139 = .ok (.iload_n 3, 1) := by decide +kernel
theorem dX7_sends_140 : decode cX7_sends 140 = .ok (.iload 4, 2) := by decide +kernel
theorem dX7_sends_142 : decode cX7_sends 142 = .ok (.invokevirtual 163, 3) := by decide +kernel
theorem dX7_sends_145 : decode cX7_sends 145 = .ok (.goto (-108), 3) := by decide +kernel
theorem dX7_sends_148 : decode cX7_sends 148 = .ok (.aload_n 0, 1) := by decide +kernel
theorem dX7_sends_149 : decode cX7_sends 149 = .ok (.getfield 140, 3) := by decide +kernel
theorem dX7_sends_152 : decode cX7_sends 152 = .ok (.ireturn, 1) := by decide +kernel
theorem dX7_canSend_0 : decode cX7_canSend 0 = .ok (.aload_n 0, 1) := by decide +kernel
theorem dX7_canSend_1 : decode cX7_canSend 1 = .ok (.iload_n 1, 1) := by decide +kernel
theorem dX7_canSend_2 : decode cX7_canSend 2 = .ok (.iload_n 2, 1) := by decide +kernel
theorem dX7_canSend_3 : decode cX7_canSend 3 = .ok (.invokevirtual 52, 3) := by decide +kernel
theorem dX7_canSend_6 : decode cX7_canSend 6 = .ok (.ifCond .eq 31, 3) := by decide +kernel
theorem dX7_canSend_9 : decode cX7_canSend 9 = .ok (.aload_n 0, 1) := by decide +kernel
theorem dX7_canSend_10 : decode cX7_canSend 10 = .ok (.getfield 46, 3) := by decide +kernel
theorem dX7_canSend_13 : decode cX7_canSend 13 = .ok (.iconst 2, 1) := by decide +kernel
theorem dX7_canSend_14 : decode cX7_canSend 14 = .ok (.if_icmp .ne 19, 3) := by decide +kernel
theorem dX7_canSend_17 : decode cX7_canSend 17 = .ok (.aload_n 0, 1) := by decide +kernel
theorem dX7_canSend_18 : decode cX7_canSend 18 = .ok (.getfield 49, 3) := by decide +kernel
theorem dX7_canSend_21 : decode cX7_canSend 21 = .ok (.iload_n 1, 1) := by decide +kernel
theorem dX7_canSend_22 : decode cX7_canSend 22 = .ok (.if_icmp .eq 15, 3) := by decide +kernel
theorem dX7_canSend_25 : decode cX7_canSend 25 = .ok (.aload_n 0, 1) := by decide +kernel
theorem dX7_canSend_26 : decode cX7_canSend 26 = .ok (.getfield 49, 3) := by decide +kernel
theorem dX7_canSend_29 : decode cX7_canSend 29 = .ok (.iload_n 2, 1) := by decide +kernel
theorem dX7_canSend_30 : decode cX7_canSend 30 = .ok (.if_icmp .eq 7, 3) := by decide +kernel
theorem dX7_canSend_33 : decode cX7_canSend 33 = .ok (.iconst 1, 1) := by decide +kernel
theorem dX7_canSend_34 : decode cX7_canSend 34 = .ok (.goto 4, 3) := by decide +kernel
theorem dX7_canSend_37 : decode cX7_canSend 37 = .ok (.iconst 0, 1) := by decide +kernel
theorem dX7_canSend_38 : decode cX7_canSend 38 = .ok (.ireturn, 1) := by decide +kernel
theorem dX7_send_0 : decode cX7_send 0 = .ok (.aload_n 0, 1) := by decide +kernel
theorem dX7_send_1 : decode cX7_send 1 = .ok (.iconst 0, 1) := by decide +kernel
theorem dX7_send_2 : decode cX7_send 2 = .ok (.putfield 32, 3) := by decide +kernel
theorem dX7_send_5 : decode cX7_send 5 = .ok (.aload_n 0, 1) := by decide +kernel
theorem dX7_send_6 : decode cX7_send 6 = .ok (.invokevirtual 83, 3) := by decide +kernel
theorem dX7_send_9 : decode cX7_send 9 = .ok (.iload_n 3, 1) := by decide +kernel
theorem dX7_send_10 : decode cX7_send 10 = .ok (.iconst 0, 1) := by decide +kernel
theorem dX7_send_11 : decode cX7_send 11 = .ok (.iconst 3, 1) := by decide +kernel
theorem dX7_send_12 : decode cX7_send 12 = .ok (.invokestatic 42, 3) := by decide +kernel
theorem dX7_send_15 : decode cX7_send 15 = .ok (.ifCond .eq 12, 3) := by decide +kernel
theorem dX7_send_18 : decode cX7_send 18 = .ok (.aload_n 0, 1) := by decide +kernel
theorem dX7_send_19 : decode cX7_send 19 = .ok (.iload_n 1, 1) := by decide +kernel
theorem dX7_send_20 : decode cX7_send 20 = .ok (.iload_n 2, 1) := by decide +kernel
theorem dX7_send_21 : decode cX7_send 21 = .ok (.invokevirtual 166, 3) := by decide +kernel
theorem dX7_send_24 : decode cX7_send 24 = .ok (.ifCond .ne 5, 3) := by decide +kernel
theorem dX7_send_27 : decode cX7_send 27 = .ok (.iconst (-1), 1) := by decide +kernel
theorem dX7_send_28 : decode cX7_send 28 = .ok (.ireturn, 1) := by decide +kernel
theorem dX7_send_29 : decode cX7_send 29 = .ok (.aload_n 0, 1) := by decide +kernel
theorem dX7_send_30 : decode cX7_send 30 = .ok (.iload_n 1, 1) := by decide +kernel
theorem dX7_send_31 : decode cX7_send 31 = .ok (.iload_n 2, 1) := by decide +kernel
theorem dX7_send_32 : decode cX7_send 32 = .ok (.aload_n 0, 1) := by decide +kernel
theorem dX7_send_33 : decode cX7_send 33 = .ok (.getfield 46, 3) := by decide +kernel
theorem dX7_send_36 : decode cX7_send 36 = .ok (.aload_n 0, 1) := by decide +kernel
theorem dX7_send_37 : decode cX7_send 37 = .ok (.getfield 49, 3) := by decide +kernel
theorem dX7_send_40 : decode cX7_send 40 = .ok (.invokevirtual 169, 3) := by decide +kernel
theorem dX7_send_43 : decode cX7_send 43 = .ok (.istore 4, 2) := by decide +kernel
theorem dX7_send_45 : decode cX7_send 45 = .ok (.iload_n 3, 1) := by decide +kernel
theorem dX7_send_46 : decode cX7_send 46 = .ok (.ifCond .ne 8, 3) := by decide +kernel
theorem dX7_send_49 : decode cX7_send 49 = .ok (.iload 4, 2) := by decide +kernel
theorem dX7_send_51 : decode cX7_send 51 = .ok (.goto 31, 3) := by decide +kernel
theorem dX7_send_54 : decode cX7_send 54 = .ok (.iload_n 3, 1) := by decide +kernel
theorem dX7_send_55 : decode cX7_send 55 = .ok (.iconst 1, 1) := by decide +kernel
theorem dX7_send_56 : decode cX7_send 56 = .ok (.if_icmp .ne 10, 3) := by decide +kernel
theorem dX7_send_59 : decode cX7_send 59 = .ok (.aload_n 0, 1) := by decide +kernel
theorem dX7_send_60 : decode cX7_send 60 = .ok (.getfield 137, 3) := by decide +kernel
theorem dX7_send_63 : decode cX7_send 63 = .ok (.goto 19, 3) := by decide +kernel
theorem dX7_send_66 : decode cX7_send 66 = .ok (.iload_n 3, 1) := by decide +kernel
theorem dX7_send_67 : decode cX7_send 67 = .ok (.iconst 2, 1) := by decide +kernel
theorem dX7_send_68 : decode cX7_send 68 = .ok (.if_icmp .ne 10, 3) := by decide +kernel
theorem dX7_send_71 : decode cX7_send 71 = .ok (.aload_n 0, 1) := by decide +kernel
theorem dX7_send_72 : decode cX7_send 72 = .ok (.getfield 156, 3) := by decide +kernel
theorem dX7_send_75 : decode cX7_send 75 = .ok (.goto 7, 3) := by decide +kernel
theorem dX7_send_78 : decode cX7_send 78 = .ok (.aload_n 0, 1) := by decide +kernel
theorem dX7_send_79 : decode cX7_send 79 = .ok (.getfield 143, 3) := by decide +kernel
theorem dX7_send_82 : decode cX7_send 82 = .ok (.ireturn, 1) := by decide +kernel
theorem dX7_trace_0 : decode cX7_trace 0 = .ok (.aload_n 0, 1) := by decide +kernel
theorem dX7_trace_1 : decode cX7_trace 1 = .ok (.iconst 0, 1) := by decide +kernel
theorem dX7_trace_2 : decode cX7_trace 2 = .ok (.putfield 32, 3) := by decide +kernel
theorem dX7_trace_5 : decode cX7_trace 5 = .ok (.aload_n 0, 1) := by decide +kernel
theorem dX7_trace_6 : decode cX7_trace 6 = .ok (.invokevirtual 83, 3) := by decide +kernel
theorem dX7_trace_9 : decode cX7_trace 9 = .ok (.iload_n 3, 1) := by decide +kernel
theorem dX7_trace_10 : decode cX7_trace 10 = .ok (.ifCond .lt 12, 3) := by decide +kernel
theorem dX7_trace_13 : decode cX7_trace 13 = .ok (.aload_n 0, 1) := by decide +kernel
theorem dX7_trace_14 : decode cX7_trace 14 = .ok (.iload_n 1, 1) := by decide +kernel
theorem dX7_trace_15 : decode cX7_trace 15 = .ok (.iload_n 2, 1) := by decide +kernel
theorem dX7_trace_16 : decode cX7_trace 16 = .ok (.invokevirtual 166, 3) := by decide +kernel
theorem dX7_trace_19 : decode cX7_trace 19 = .ok (.ifCond .ne 5, 3) := by decide +kernel
theorem dX7_trace_22 : decode cX7_trace 22 = .ok (.iconst (-1), 1) := by decide +kernel
theorem dX7_trace_23 : decode cX7_trace 23 = .ok (.ireturn, 1) := by decide +kernel
theorem dX7_trace_24 : decode cX7_trace 24 = .ok (.aload_n 0, 1) := by decide +kernel
theorem dX7_trace_25 : decode cX7_trace 25 = .ok (.iload_n 1, 1) := by decide +kernel
theorem dX7_trace_26 : decode cX7_trace 26 = .ok (.iload_n 2, 1) := by decide +kernel
theorem dX7_trace_27 : decode cX7_trace 27 = .ok (.aload_n 0, 1) := by decide +kernel
theorem dX7_trace_28 : decode cX7_trace 28 = .ok (.getfield 46, 3) := by decide +kernel
theorem dX7_trace_31 : decode cX7_trace 31 = .ok (.aload_n 0, 1) := by decide +kernel
theorem dX7_trace_32 : decode cX7_trace 32 = .ok (.getfield 49, 3) := by decide +kernel
theorem dX7_trace_35 : decode cX7_trace 35 = .ok (.invokevirtual 169, 3) := by decide +kernel
theorem dX7_trace_38 : decode cX7_trace 38 = .ok (.istore 4, 2) := by decide +kernel
theorem dX7_trace_40 : decode cX7_trace 40 = .ok (.iload_n 3, 1) := by decide +kernel
theorem dX7_trace_41 : decode cX7_trace 41 = .ok (.aload_n 0, 1) := by decide +kernel
theorem dX7_trace_42 : decode cX7_trace 42 = .ok (.getfield 137, 3) := by decide +kernel
theorem dX7_trace_45 : decode cX7_trace 45 = .ok (.if_icmp .gt 12, 3) := by decide +kernel
theorem dX7_trace_48 : decode cX7_trace 48 = .ok (.aload_n 0, 1) := by decide +kernel
theorem dX7_trace_49 : decode cX7_trace 49 = .ok (.getfield 29, 3) := by decide +kernel
theorem dX7_trace_52 : decode cX7_trace 52 = .ok (.iload_n 3, 1) := by decide +kernel
theorem dX7_trace_53 : decode cX7_trace 53 = .ok (.iaload, 1) := by decide +kernel
theorem dX7_trace_54 : decode cX7_trace 54 = .ok (.goto 4, 3) := by decide +kernel
theorem dX7_trace_57 : decode cX7_trace 57 = .ok (.iconst (-1), 1) := by decide +kernel
theorem dX7_trace_58 : decode cX7_trace 58 = .ok (.ireturn, 1) := by decide +kernel
theorem dX7_laysBoth_0 : decode cX7_laysBoth 0 = .ok (.aload_n 0, 1) := by decide +kernel
theorem dX7_laysBoth_1 : decode cX7_laysBoth 1 = .ok (.invokevirtual 83, 3) := by decide +kernel
theorem dX7_laysBoth_4 : decode cX7_laysBoth 4 = .ok (.aload_n 0, 1) := by decide +kernel
theorem dX7_laysBoth_5 : decode cX7_laysBoth 5 = .ok (.sipush 144, 3) := by decide +kernel
theorem dX7_laysBoth_8 : decode cX7_laysBoth 8 = .ok (.iload_n 1, 1) := by decide +kernel
theorem dX7_laysBoth_9 : decode cX7_laysBoth 9 = .ok (.invokevirtual 68, 3) := by decide +kernel
theorem dX7_laysBoth_12 : decode cX7_laysBoth 12 = .ok (.return_, 1) := by decide +kernel
theorem dX7_behind_0 : decode cX7_behind 0 = .ok (.aload_n 0, 1) := by decide +kernel
theorem dX7_behind_1 : decode cX7_behind 1 = .ok (.iconst 0, 1) := by decide +kernel
theorem dX7_behind_2 : decode cX7_behind 2 = .ok (.putfield 32, 3) := by decide +kernel
theorem dX7_behind_5 : decode cX7_behind 5 = .ok (.aload_n 0, 1) := by decide +kernel
theorem dX7_behind_6 : decode cX7_behind 6 = .ok (.iload_n 1, 1) := by decide +kernel
theorem dX7_behind_7 : decode cX7_behind 7 = .ok (.invokevirtual 60, 3) := by decide +kernel
theorem dX7_behind_10 : decode cX7_behind 10 = .ok (.ifCond .eq 19, 3) := by decide +kernel
theorem dX7_behind_13 : decode cX7_behind 13 = .ok (.aload_n 0, 1) := by decide +kernel
theorem dX7_behind_14 : decode cX7_behind 14 = .ok (.iload_n 2, 1) := by decide +kernel
theorem dX7_behind_15 : decode cX7_behind 15 = .ok (.invokevirtual 38, 3) := by decide +kernel
theorem dX7_behind_18 : decode cX7_behind 18 = .ok (.ifCond .eq 11, 3) := by decide +kernel
theorem dX7_behind_21 : decode cX7_behind 21 = .ok (.aload_n 0, 1) := by decide +kernel
theorem dX7_behind_22 : decode cX7_behind 22 = .ok (.iload_n 3, 1) := by decide +kernel
theorem dX7_behind_23 : decode cX7_behind 23 = .ok (.invokevirtual 38, 3) := by decide +kernel
theorem dX7_behind_26 : decode cX7_behind 26 = .ok (.ifCond .ne 5, 3) := by decide +kernel
theorem dX7_behind_29 : decode cX7_behind 29 = .ok (.iconst (-1), 1) := by decide +kernel
theorem dX7_behind_30 : decode cX7_behind 30 = .ok (.ireturn, 1) := by decide +kernel
theorem dX7_behind_31 : decode cX7_behind 31 = .ok (.aload_n 0, 1) := by decide +kernel
theorem dX7_behind_32 : decode cX7_behind 32 = .ok (.iload_n 1, 1) := by decide +kernel
theorem dX7_behind_33 : decode cX7_behind 33 = .ok (.invokevirtual 172, 3) := by decide +kernel
theorem dX7_behind_36 : decode cX7_behind 36 = .ok (.aload_n 0, 1) := by decide +kernel
theorem dX7_behind_37 : decode cX7_behind 37 = .ok (.getfield 26, 3) := by decide +kernel
theorem dX7_behind_40 : decode cX7_behind 40 = .ok (.sipush 144, 3) := by decide +kernel
theorem dX7_behind_43 : decode cX7_behind 43 = .ok (.iload_n 2, 1) := by decide +kernel
theorem dX7_behind_44 : decode cX7_behind 44 = .ok (.iload_n 3, 1) := by decide +kernel
theorem dX7_behind_45 : decode cX7_behind 45 = .ok (.invokestatic 63, 3) := by decide +kernel
theorem dX7_behind_48 : decode cX7_behind 48 = .ok (.iaload, 1) := by decide +kernel
theorem dX7_behind_49 : decode cX7_behind 49 = .ok (.invokestatic 92, 3) := by decide +kernel
theorem dX7_behind_52 : decode cX7_behind 52 = .ok (.ireturn, 1) := by decide +kernel
theorem dX7_nextBehind_0 : decode cX7_nextBehind 0 = .ok (.aload_n 0, 1) := by decide +kernel
theorem dX7_nextBehind_1 : decode cX7_nextBehind 1 = .ok (.iconst 0, 1) := by decide +kernel
theorem dX7_nextBehind_2 : decode cX7_nextBehind 2 = .ok (.putfield 32, 3) := by decide +kernel
theorem dX7_nextBehind_5 : decode cX7_nextBehind 5 = .ok (.aload_n 0, 1) := by decide +kernel
theorem dX7_nextBehind_6 : decode cX7_nextBehind 6 = .ok (.iload_n 1, 1) := by decide +kernel
theorem dX7_nextBehind_7 : decode cX7_nextBehind 7 = .ok (.invokevirtual 60, 3) := by decide +kernel
theorem dX7_nextBehind_10 : decode cX7_nextBehind 10 = .ok (.ifCond .eq 19, 3) := by decide +kernel
theorem dX7_nextBehind_13 : decode cX7_nextBehind 13 = .ok (.aload_n 0, 1) := by decide +kernel
theorem dX7_nextBehind_14 : decode cX7_nextBehind 14 = .ok (.iload_n 2, 1) := by decide +kernel
theorem dX7_nextBehind_15 : decode cX7_nextBehind 15 = .ok (.invokevirtual 38, 3) := by decide +kernel
theorem dX7_nextBehind_18 : decode cX7_nextBehind 18 = .ok (.ifCond .eq 11, 3) := by decide +kernel
theorem dX7_nextBehind_21 : decode cX7_nextBehind 21 = .ok (.aload_n 0, 1) := by decide +kernel
theorem dX7_nextBehind_22 : decode cX7_nextBehind 22 = .ok (.iload_n 3, 1) := by decide +kernel
theorem dX7_nextBehind_23 : decode cX7_nextBehind 23 = .ok (.invokevirtual 38, 3) := by decide +kernel
theorem dX7_nextBehind_26 : decode cX7_nextBehind 26 = .ok (.ifCond .ne 5, 3) := by decide +kernel
theorem dX7_nextBehind_29 : decode cX7_nextBehind 29 = .ok (.iconst (-1), 1) := by decide +kernel
theorem dX7_nextBehind_30 : decode cX7_nextBehind 30 = .ok (.ireturn, 1) := by decide +kernel
theorem dX7_nextBehind_31 : decode cX7_nextBehind 31 = .ok (.aload_n 0, 1) := by decide +kernel
theorem dX7_nextBehind_32 : decode cX7_nextBehind 32 = .ok (.iload_n 1, 1) := by decide +kernel
theorem dX7_nextBehind_33 : decode cX7_nextBehind 33 = .ok (.invokevirtual 172, 3) := by decide +kernel
theorem dX7_nextBehind_36 : decode cX7_nextBehind 36 = .ok (.aload_n 0, 1) := by decide +kernel
theorem dX7_nextBehind_37 : decode cX7_nextBehind 37 = .ok (.sipush 144, 3) := by decide +kernel
theorem dX7_nextBehind_40 : decode cX7_nextBehind 40 = .ok (.iload_n 2, 1) := by decide +kernel
theorem dX7_nextBehind_41 : decode cX7_nextBehind 41 = .ok (.iload_n 3, 1) := by decide +kernel
theorem dX7_nextBehind_42 : decode cX7_nextBehind 42 = .ok (.iload_n 1, 1) := by decide +kernel
theorem dX7_nextBehind_43 : decode cX7_nextBehind 43 = .ok (.invokevirtual 72, 3) := by decide +kernel
theorem dX7_nextBehind_46 : decode cX7_nextBehind 46 = .ok (.ireturn, 1) := by decide +kernel
theorem dX7_hitBy_0 : decode cX7_hitBy 0 = .ok (.iconst 0, 1) := by decide +kernel
theorem dX7_hitBy_1 : decode cX7_hitBy 1 = .ok (.istore_n 3, 1) := by decide +kernel
theorem dX7_hitBy_2 : decode cX7_hitBy 2 = .ok (.iconst 0, 1) := by decide +kernel
theorem dX7_hitBy_3 : decode cX7_hitBy 3 = .ok (.istore 4, 2) := by decide +kernel
theorem dX7_hitBy_5 : decode cX7_hitBy 5 = .ok (.iload 4, 2) := by decide +kernel
theorem dX7_hitBy_7 : decode cX7_hitBy 7 = .ok (.aload_n 0, 1) := by decide +kernel
theorem dX7_hitBy_8 : decode cX7_hitBy 8 = .ok (.getfield 7, 3) := by decide +kernel
theorem dX7_hitBy_11 : decode cX7_hitBy 11 = .ok (.if_icmp .ge 31, 3) := by decide +kernel
theorem dX7_hitBy_14 : decode cX7_hitBy 14 = .ok (.iload_n 3, 1) := by decide +kernel
theorem dX7_hitBy_15 : decode cX7_hitBy 15 = .ok (.aload_n 0, 1) := by decide +kernel
theorem dX7_hitBy_16 : decode cX7_hitBy 16 = .ok (.iload 4, 2) := by decide +kernel
theorem dX7_hitBy_18 : decode cX7_hitBy 18 = .ok (.iload_n 2, 1) := by decide +kernel
theorem dX7_hitBy_19 : decode cX7_hitBy 19 = .ok (.iload_n 1, 1) := by decide +kernel
theorem dX7_hitBy_20 : decode cX7_hitBy 20 = .ok (.invokevirtual 86, 3) := by decide +kernel
theorem dX7_hitBy_23 : decode cX7_hitBy 23 = .ok (.ifCond .eq 10, 3) := by decide +kernel
theorem dX7_hitBy_26 : decode cX7_hitBy 26 = .ok (.iconst 1, 1) := by decide +kernel
theorem dX7_hitBy_27 : decode cX7_hitBy 27 = .ok (.iload 4, 2) := by decide +kernel
theorem dX7_hitBy_29 : decode cX7_hitBy 29 = .ok (.ishl, 1) := by decide +kernel
theorem dX7_hitBy_30 : decode cX7_hitBy 30 = .ok (.goto 4, 3) := by decide +kernel
theorem dX7_hitBy_33 : decode cX7_hitBy 33 = .ok (.iconst 0, 1) := by decide +kernel
theorem dX7_hitBy_34 : decode cX7_hitBy 34 = .ok (.ior, 1) := by decide +kernel
theorem dX7_hitBy_35 : decode cX7_hitBy 35 = .ok (.istore_n 3, 1) := by decide +kernel
theorem dX7_hitBy_36 : decode cX7_hitBy 36 = .ok (.iinc 4 1, 3) := by decide +kernel
theorem dX7_hitBy_39 : decode cX7_hitBy 39 = .ok (.goto (-34), 3) := by decide +kernel
theorem dX7_hitBy_42 : decode cX7_hitBy 42 = .ok (.iload_n 3, 1) := by decide +kernel
theorem dX7_hitBy_43 : decode cX7_hitBy 43 = .ok (.ireturn, 1) := by decide +kernel
theorem dX7_hit_0 : decode cX7_hit 0 = .ok (.aload_n 0, 1) := by decide +kernel
theorem dX7_hit_1 : decode cX7_hit 1 = .ok (.iconst 0, 1) := by decide +kernel
theorem dX7_hit_2 : decode cX7_hit 2 = .ok (.putfield 32, 3) := by decide +kernel
theorem dX7_hit_5 : decode cX7_hit 5 = .ok (.aload_n 0, 1) := by decide +kernel
theorem dX7_hit_6 : decode cX7_hit 6 = .ok (.invokevirtual 83, 3) := by decide +kernel
theorem dX7_hit_9 : decode cX7_hit 9 = .ok (.aload_n 0, 1) := by decide +kernel
theorem dX7_hit_10 : decode cX7_hit 10 = .ok (.iload_n 1, 1) := by decide +kernel
theorem dX7_hit_11 : decode cX7_hit 11 = .ok (.invokevirtual 60, 3) := by decide +kernel
theorem dX7_hit_14 : decode cX7_hit 14 = .ok (.ifCond .eq 20, 3) := by decide +kernel
theorem dX7_hit_17 : decode cX7_hit 17 = .ok (.aload_n 0, 1) := by decide +kernel
theorem dX7_hit_18 : decode cX7_hit 18 = .ok (.iload_n 2, 1) := by decide +kernel
theorem dX7_hit_19 : decode cX7_hit 19 = .ok (.invokevirtual 38, 3) := by decide +kernel
theorem dX7_hit_22 : decode cX7_hit 22 = .ok (.ifCond .eq 12, 3) := by decide +kernel
theorem dX7_hit_25 : decode cX7_hit 25 = .ok (.aload_n 0, 1) := by decide +kernel
theorem dX7_hit_26 : decode cX7_hit 26 = .ok (.iload_n 1, 1) := by decide +kernel
theorem dX7_hit_27 : decode cX7_hit 27 = .ok (.iload_n 2, 1) := by decide +kernel
theorem dX7_hit_28 : decode cX7_hit 28 = .ok (.invokevirtual 176, 3) := by decide +kernel
theorem dX7_hit_31 : decode cX7_hit 31 = .ok (.goto 4, 3) := by decide +kernel
theorem dX7_hit_34 : decode cX7_hit 34 = .ok (.iconst 0, 1) := by decide +kernel
theorem dX7_hit_35 : decode cX7_hit 35 = .ok (.ireturn, 1) := by decide +kernel
theorem dX7_waitOf_0 : decode cX7_waitOf 0 = .ok (.aload_n 0, 1) := by decide +kernel
theorem dX7_waitOf_1 : decode cX7_waitOf 1 = .ok (.iload_n 1, 1) := by decide +kernel
theorem dX7_waitOf_2 : decode cX7_waitOf 2 = .ok (.iload_n 2, 1) := by decide +kernel
theorem dX7_waitOf_3 : decode cX7_waitOf 3 = .ok (.invokevirtual 176, 3) := by decide +kernel
theorem dX7_waitOf_6 : decode cX7_waitOf 6 = .ok (.istore 4, 2) := by decide +kernel
theorem dX7_waitOf_8 : decode cX7_waitOf 8 = .ok (.iconst (-1), 1) := by decide +kernel
theorem dX7_waitOf_9 : decode cX7_waitOf 9 = .ok (.istore 5, 2) := by decide +kernel
theorem dX7_waitOf_11 : decode cX7_waitOf 11 = .ok (.iconst 0, 1) := by decide +kernel
theorem dX7_waitOf_12 : decode cX7_waitOf 12 = .ok (.istore 6, 2) := by decide +kernel
theorem dX7_waitOf_14 : decode cX7_waitOf 14 = .ok (.iload 6, 2) := by decide +kernel
theorem dX7_waitOf_16 : decode cX7_waitOf 16 = .ok (.aload_n 0, 1) := by decide +kernel
theorem dX7_waitOf_17 : decode cX7_waitOf 17 = .ok (.getfield 7, 3) := by decide +kernel
theorem dX7_waitOf_20 : decode cX7_waitOf 20 = .ok (.if_icmp .ge 99, 3) := by decide +kernel
theorem dX7_waitOf_23 : decode cX7_waitOf 23 = .ok (.iconst 0, 1) := by decide +kernel
theorem dX7_waitOf_24 : decode cX7_waitOf 24 = .ok (.istore 7, 2) := by decide +kernel
theorem dX7_waitOf_26 : decode cX7_waitOf 26 = .ok (.iload 6, 2) := by decide +kernel
theorem dX7_waitOf_28 : decode cX7_waitOf 28 = .ok (.istore 8, 2) := by decide +kernel
theorem dX7_waitOf_30 : decode cX7_waitOf 30 = .ok (.iload 4, 2) := by decide +kernel
theorem dX7_waitOf_32 : decode cX7_waitOf 32 = .ok (.iload 8, 2) := by decide +kernel
theorem dX7_waitOf_34 : decode cX7_waitOf 34 = .ok (.ishr, 1) := by decide +kernel
theorem dX7_waitOf_35 : decode cX7_waitOf 35 = .ok (.iconst 1, 1) := by decide +kernel
theorem dX7_waitOf_36 : decode cX7_waitOf 36 = .ok (.iand, 1) := by decide +kernel
theorem dX7_waitOf_37 : decode cX7_waitOf 37 = .ok (.iconst 1, 1) := by decide +kernel
theorem dX7_waitOf_38 : decode cX7_waitOf 38 = .ok (.if_icmp .ne 32, 3) := by decide +kernel
theorem dX7_waitOf_41 : decode cX7_waitOf 41 = .ok (.iload 8, 2) := by decide +kernel
theorem dX7_waitOf_43 : decode cX7_waitOf 43 = .ok (.iload_n 3, 1) := by decide +kernel
theorem dX7_waitOf_44 : decode cX7_waitOf 44 = .ok (.if_icmp .eq 26, 3) := by decide +kernel
theorem dX7_waitOf_47 : decode cX7_waitOf 47 = .ok (.iload 8, 2) := by decide +kernel
theorem dX7_waitOf_49 : decode cX7_waitOf 49 = .ok (.iload_n 2, 1) := by decide +kernel
theorem dX7_waitOf_50 : decode cX7_waitOf 50 = .ok (.if_icmp .eq 20, 3) := by decide +kernel
theorem dX7_waitOf_53 : decode cX7_waitOf 53 = .ok (.aload_n 0, 1) := by decide +kernel
theorem dX7_waitOf_54 : decode cX7_waitOf 54 = .ok (.iconst 0, 1) := by decide +kernel
theorem dX7_waitOf_55 : decode cX7_waitOf 55 = .ok (.iload 8, 2) := by decide +kernel
theorem dX7_waitOf_57 : decode cX7_waitOf 57 = .ok (.iload_n 2, 1) := by decide +kernel
theorem dX7_waitOf_58 : decode cX7_waitOf 58 = .ok (.iconst (-1), 1) := by decide +kernel
theorem dX7_waitOf_59 : decode cX7_waitOf 59 = .ok (.invokevirtual 72, 3) := by decide +kernel
theorem dX7_waitOf_62 : decode cX7_waitOf 62 = .ok (.istore 8, 2) := by decide +kernel
theorem dX7_waitOf_64 : decode cX7_waitOf 64 = .ok (.iinc 7 1, 3) := by decide +kernel
theorem dX7_waitOf_67 : decode cX7_waitOf 67 = .ok (.goto (-37), 3) := by decide +kernel
theorem dX7_waitOf_70 : decode cX7_waitOf 70 = .ok (.iload 4, 2) := by decide +kernel
theorem dX7_waitOf_72 : decode cX7_waitOf 72 = .ok (.iload 6, 2) := by decide +kernel
theorem dX7_waitOf_74 : decode cX7_waitOf 74 = .ok (.ishr, 1) := by decide +kernel
theorem dX7_waitOf_75 : decode cX7_waitOf 75 = .ok (.iconst 1, 1) := by decide +kernel
theorem dX7_waitOf_76 : decode cX7_waitOf 76 = .ok (.iand, 1) := by decide +kernel
theorem dX7_waitOf_77 : decode cX7_waitOf 77 = .ok (.iconst 1, 1) := by decide +kernel
theorem dX7_waitOf_78 : decode cX7_waitOf 78 = .ok (.if_icmp .ne 31, 3) := by decide +kernel
theorem dX7_waitOf_81 : decode cX7_waitOf 81 = .ok (.iload 4, 2) := by decide +kernel
theorem dX7_waitOf_83 : decode cX7_waitOf 83 = .ok (.iload_n 3, 1) := by decide +kernel
theorem dX7_waitOf_84 : decode cX7_waitOf 84 = .ok (.ishr, 1) := by decide +kernel
theorem dX7_waitOf_85 : decode cX7_waitOf 85 = .ok (.iconst 1, 1) := by decide +kernel
theorem dX7_waitOf_86 : decode cX7_waitOf 86 = .ok (.iand, 1) := by decide +kernel
theorem dX7_waitOf_87 : decode cX7_waitOf 87 = .ok (.iconst 1, 1) := by decide +kernel
theorem dX7_waitOf_88 : decode cX7_waitOf 88 = .ok (.if_icmp .ne 21, 3) := by decide +kernel
theorem dX7_waitOf_91 : decode cX7_waitOf 91 = .ok (.iload 8, 2) := by decide +kernel
theorem dX7_waitOf_93 : decode cX7_waitOf 93 = .ok (.iload_n 3, 1) := by decide +kernel
theorem dX7_waitOf_94 : decode cX7_waitOf 94 = .ok (.if_icmp .ne 15, 3) := by decide +kernel
theorem dX7_waitOf_97 : decode cX7_waitOf 97 = .ok (.iload 7, 2) := by decide +kernel
theorem dX7_waitOf_99 : decode cX7_waitOf 99 = .ok (.iload 5, 2) := by decide +kernel
theorem dX7_waitOf_101 : decode cX7_waitOf 101 = .ok (.if_icmp .le 8, 3) := by decide +kernel
theorem dX7_waitOf_104 : decode cX7_waitOf 104 = .ok (.iload 7, 2) := by decide +kernel
theorem dX7_waitOf_106 : decode cX7_waitOf 106 = .ok (.goto 5, 3) := by decide +kernel
theorem dX7_waitOf_109 : decode cX7_waitOf 109 = .ok (.iload 5, 2) := by decide +kernel
theorem dX7_waitOf_111 : decode cX7_waitOf 111 = .ok (.istore 5, 2) := by decide +kernel
theorem dX7_waitOf_113 : decode cX7_waitOf 113 = .ok (.iinc 6 1, 3) := by decide +kernel
theorem dX7_waitOf_116 : decode cX7_waitOf 116 = .ok (.goto (-102), 3) := by decide +kernel
theorem dX7_waitOf_119 : decode cX7_waitOf 119 = .ok (.iload 5, 2) := by decide +kernel
theorem dX7_waitOf_121 : decode cX7_waitOf 121 = .ok (.ireturn, 1) := by decide +kernel
theorem dX7_holds_0 : decode cX7_holds 0 = .ok (.aload_n 0, 1) := by decide +kernel
theorem dX7_holds_1 : decode cX7_holds 1 = .ok (.iconst 0, 1) := by decide +kernel
theorem dX7_holds_2 : decode cX7_holds 2 = .ok (.putfield 32, 3) := by decide +kernel
theorem dX7_holds_5 : decode cX7_holds 5 = .ok (.aload_n 0, 1) := by decide +kernel
theorem dX7_holds_6 : decode cX7_holds 6 = .ok (.invokevirtual 83, 3) := by decide +kernel
theorem dX7_holds_9 : decode cX7_holds 9 = .ok (.aload_n 0, 1) := by decide +kernel
theorem dX7_holds_10 : decode cX7_holds 10 = .ok (.iload_n 1, 1) := by decide +kernel
theorem dX7_holds_11 : decode cX7_holds 11 = .ok (.invokevirtual 60, 3) := by decide +kernel
theorem dX7_holds_14 : decode cX7_holds 14 = .ok (.ifCond .eq 24, 3) := by decide +kernel
theorem dX7_holds_17 : decode cX7_holds 17 = .ok (.aload_n 0, 1) := by decide +kernel
theorem dX7_holds_18 : decode cX7_holds 18 = .ok (.iload_n 3, 1) := by decide +kernel
theorem dX7_holds_19 : decode cX7_holds 19 = .ok (.invokevirtual 38, 3) := by decide +kernel
theorem dX7_holds_22 : decode cX7_holds 22 = .ok (.ifCond .eq 16, 3) := by decide +kernel
theorem dX7_holds_25 : decode cX7_holds 25 = .ok (.iload_n 2, 1) := by decide +kernel
theorem dX7_holds_26 : decode cX7_holds 26 = .ok (.iconst (-1), 1) := by decide +kernel
theorem dX7_holds_27 : decode cX7_holds 27 = .ok (.if_icmp .eq 13, 3) := by decide +kernel
theorem dX7_holds_30 : decode cX7_holds 30 = .ok (.aload_n 0, 1) := by decide +kernel
theorem dX7_holds_31 : decode cX7_holds 31 = .ok (.iload_n 2, 1) := by decide +kernel
theorem dX7_holds_32 : decode cX7_holds 32 = .ok (.invokevirtual 38, 3) := by decide +kernel
theorem dX7_holds_35 : decode cX7_holds 35 = .ok (.ifCond .ne 5, 3) := by decide +kernel
theorem dX7_holds_38 : decode cX7_holds 38 = .ok (.iconst (-1), 1) := by decide +kernel
theorem dX7_holds_39 : decode cX7_holds 39 = .ok (.ireturn, 1) := by decide +kernel
theorem dX7_holds_40 : decode cX7_holds 40 = .ok (.iconst (-1), 1) := by decide +kernel
theorem dX7_holds_41 : decode cX7_holds 41 = .ok (.istore 4, 2) := by decide +kernel
theorem dX7_holds_43 : decode cX7_holds 43 = .ok (.iconst 0, 1) := by decide +kernel
theorem dX7_holds_44 : decode cX7_holds 44 = .ok (.istore 5, 2) := by decide +kernel
theorem dX7_holds_46 : decode cX7_holds 46 = .ok (.iload 5, 2) := by decide +kernel
theorem dX7_holds_48 : decode cX7_holds 48 = .ok (.aload_n 0, 1) := by decide +kernel
theorem dX7_holds_49 : decode cX7_holds 49 = .ok (.getfield 7, 3) := by decide +kernel
theorem dX7_holds_52 : decode cX7_holds 52 = .ok (.if_icmp .ge 50, 3) := by decide +kernel
theorem dX7_holds_55 : decode cX7_holds 55 = .ok (.iload_n 2, 1) := by decide +kernel
theorem dX7_holds_56 : decode cX7_holds 56 = .ok (.iconst (-1), 1) := by decide +kernel
theorem dX7_holds_57 : decode cX7_holds 57 = .ok (.if_icmp .eq 9, 3) := by decide +kernel
theorem dX7_holds_60 : decode cX7_holds 60 = .ok (.iload_n 2, 1) := by decide +kernel
theorem dX7_holds_61 : decode cX7_holds 61 = .ok (.iload 5, 2) := by decide +kernel
theorem dX7_holds_63 : decode cX7_holds 63 = .ok (.if_icmp .ne 14, 3) := by decide +kernel
theorem dX7_holds_66 : decode cX7_holds 66 = .ok (.aload_n 0, 1) := by decide +kernel
theorem dX7_holds_67 : decode cX7_holds 67 = .ok (.iload_n 1, 1) := by decide +kernel
theorem dX7_holds_68 : decode cX7_holds 68 = .ok (.iload 5, 2) := by decide +kernel
theorem dX7_holds_70 : decode cX7_holds 70 = .ok (.iload_n 3, 1) := by decide +kernel
theorem dX7_holds_71 : decode cX7_holds 71 = .ok (.invokevirtual 179, 3) := by decide +kernel
theorem dX7_holds_74 : decode cX7_holds 74 = .ok (.goto 4, 3) := by decide +kernel
theorem dX7_holds_77 : decode cX7_holds 77 = .ok (.iconst (-1), 1) := by decide +kernel
theorem dX7_holds_78 : decode cX7_holds 78 = .ok (.istore 6, 2) := by decide +kernel
theorem dX7_holds_80 : decode cX7_holds 80 = .ok (.iload 6, 2) := by decide +kernel
theorem dX7_holds_82 : decode cX7_holds 82 = .ok (.iload 4, 2) := by decide +kernel
theorem dX7_holds_84 : decode cX7_holds 84 = .ok (.if_icmp .le 8, 3) := by decide +kernel
theorem dX7_holds_87 : decode cX7_holds 87 = .ok (.iload 6, 2) := by decide +kernel
theorem dX7_holds_89 : decode cX7_holds 89 = .ok (.goto 5, 3) := by decide +kernel
theorem dX7_holds_92 : decode cX7_holds 92 = .ok (.iload 4, 2) := by decide +kernel
theorem dX7_holds_94 : decode cX7_holds 94 = .ok (.istore 4, 2) := by decide +kernel
theorem dX7_holds_96 : decode cX7_holds 96 = .ok (.iinc 5 1, 3) := by decide +kernel
theorem dX7_holds_99 : decode cX7_holds 99 = .ok (.goto (-53), 3) := by decide +kernel
theorem dX7_holds_102 : decode cX7_holds 102 = .ok (.iload 4, 2) := by decide +kernel
theorem dX7_holds_104 : decode cX7_holds 104 = .ok (.ireturn, 1) := by decide +kernel
theorem dX7_round_0 : decode cX7_round 0 = .ok (.aload_n 0, 1) := by decide +kernel
theorem dX7_round_1 : decode cX7_round 1 = .ok (.iconst 0, 1) := by decide +kernel
theorem dX7_round_2 : decode cX7_round 2 = .ok (.putfield 32, 3) := by decide +kernel
theorem dX7_round_5 : decode cX7_round 5 = .ok (.aload_n 0, 1) := by decide +kernel
theorem dX7_round_6 : decode cX7_round 6 = .ok (.iload_n 1, 1) := by decide +kernel
theorem dX7_round_7 : decode cX7_round 7 = .ok (.invokevirtual 60, 3) := by decide +kernel
theorem dX7_round_10 : decode cX7_round 10 = .ok (.ifCond .eq 11, 3) := by decide +kernel
theorem dX7_round_13 : decode cX7_round 13 = .ok (.aload_n 0, 1) := by decide +kernel
theorem dX7_round_14 : decode cX7_round 14 = .ok (.iload_n 2, 1) := by decide +kernel
theorem dX7_round_15 : decode cX7_round 15 = .ok (.invokevirtual 38, 3) := by decide +kernel
theorem dX7_round_18 : decode cX7_round 18 = .ok (.ifCond .ne 5, 3) := by decide +kernel
theorem dX7_round_21 : decode cX7_round 21 = .ok (.iconst 0, 1) := by decide +kernel
theorem dX7_round_22 : decode cX7_round 22 = .ok (.ireturn, 1) := by decide +kernel
theorem dX7_round_23 : decode cX7_round 23 = .ok (.aload_n 0, 1) := by decide +kernel
theorem dX7_round_24 : decode cX7_round 24 = .ok (.iload_n 1, 1) := by decide +kernel
theorem dX7_round_25 : decode cX7_round 25 = .ok (.invokevirtual 172, 3) := by decide +kernel
theorem dX7_round_28 : decode cX7_round 28 = .ok (.iconst 0, 1) := by decide +kernel
theorem dX7_round_29 : decode cX7_round 29 = .ok (.istore 4, 2) := by decide +kernel
theorem dX7_round_31 : decode cX7_round 31 = .ok (.iconst 0, 1) := by decide +kernel
theorem dX7_round_32 : decode cX7_round 32 = .ok (.istore 5, 2) := by decide +kernel
theorem dX7_round_34 : decode cX7_round 34 = .ok (.iload 5, 2) := by decide +kernel
theorem dX7_round_36 : decode cX7_round 36 = .ok (.aload_n 0, 1) := by decide +kernel
theorem dX7_round_37 : decode cX7_round 37 = .ok (.getfield 7, 3) := by decide +kernel
theorem dX7_round_40 : decode cX7_round 40 = .ok (.if_icmp .ge 87, 3) := by decide +kernel
theorem dX7_round_43 : decode cX7_round 43 = .ok (.iload 5, 2) := by decide +kernel
theorem dX7_round_45 : decode cX7_round 45 = .ok (.istore 6, 2) := by decide +kernel
theorem dX7_round_47 : decode cX7_round 47 = .ok (.iconst 0, 1) := by decide +kernel
theorem dX7_round_48 : decode cX7_round 48 = .ok (.istore 7, 2) := by decide +kernel
theorem dX7_round_50 : decode cX7_round 50 = .ok (.iload 7, 2) := by decide +kernel
theorem dX7_round_52 : decode cX7_round 52 = .ok (.bipush 12, 2) := by decide +kernel
theorem dX7_round_54 : decode cX7_round 54 = .ok (.if_icmp .ge 49, 3) := by decide +kernel
theorem dX7_round_57 : decode cX7_round 57 = .ok (.iload 6, 2) := by decide +kernel
theorem dX7_round_59 : decode cX7_round 59 = .ok (.ifCond .lt 44, 3) := by decide +kernel
theorem dX7_round_62 : decode cX7_round 62 = .ok (.iload_n 3, 1) := by decide +kernel
theorem dX7_round_63 : decode cX7_round 63 = .ok (.iload 6, 2) := by decide +kernel
theorem dX7_round_65 : decode cX7_round 65 = .ok (.ishr, 1) := by decide +kernel
theorem dX7_round_66 : decode cX7_round 66 = .ok (.iconst 1, 1) := by decide +kernel
theorem dX7_round_67 : decode cX7_round 67 = .ok (.iand, 1) := by decide +kernel
theorem dX7_round_68 : decode cX7_round 68 = .ok (.iconst 1, 1) := by decide +kernel
theorem dX7_round_69 : decode cX7_round 69 = .ok (.if_icmp .ne 17, 3) := by decide +kernel
theorem dX7_round_72 : decode cX7_round 72 = .ok (.aload_n 0, 1) := by decide +kernel
theorem dX7_round_73 : decode cX7_round 73 = .ok (.sipush 144, 3) := by decide +kernel
theorem dX7_round_76 : decode cX7_round 76 = .ok (.iload 6, 2) := by decide +kernel
theorem dX7_round_78 : decode cX7_round 78 = .ok (.iload_n 2, 1) := by decide +kernel
theorem dX7_round_79 : decode cX7_round 79 = .ok (.iload_n 1, 1) := by decide +kernel
theorem dX7_round_80 : decode cX7_round 80 = .ok (.invokevirtual 72, 3) := by decide +kernel
theorem dX7_round_83 : decode cX7_round 83 = .ok (.goto 12, 3) := by decide +kernel
theorem dX7_round_86 : decode cX7_round 86 = .ok (.aload_n 0, 1) := by decide +kernel
theorem dX7_round_87 : decode cX7_round 87 = .ok (.iconst 0, 1) := by decide +kernel
theorem dX7_round_88 : decode cX7_round 88 = .ok (.iload 6, 2) := by decide +kernel
theorem dX7_round_90 : decode cX7_round 90 = .ok (.iload_n 2, 1) := by decide +kernel
theorem dX7_round_91 : decode cX7_round 91 = .ok (.iconst (-1), 1) := by decide +kernel
theorem dX7_round_92 : decode cX7_round 92 = .ok (.invokevirtual 72, 3) := by decide +kernel
theorem dX7_round_95 : decode cX7_round 95 = .ok (.istore 6, 2) := by decide +kernel
theorem dX7_round_97 : decode cX7_round 97 = .ok (.iinc 7 1, 3) := by decide +kernel
theorem dX7_round_100 : decode cX7_round 100 = .ok (.goto (-50), 3) := by decide +kernel
theorem dX7_round_103 : decode cX7_round 103 = .ok (.iload 4, 2) := by decide +kernel
theorem dX7_round_105 : decode cX7_round 105 = .ok (.iload 6, 2) := by decide +kernel
theorem dX7_round_107 : decode cX7_round 107 = .ok (.ifCond .lt 10, 3) := by decide +kernel
theorem dX7_round_110 : decode cX7_round 110 = .ok (.iconst 1, 1) := by decide +kernel
theorem dX7_round_111 : decode cX7_round 111 = .ok (.iload 5, 2) := by decide +kernel
theorem dX7_round_113 : decode cX7_round 113 = .ok (.ishl, 1) := by decide +kernel
theorem dX7_round_114 : decode cX7_round 114 = .ok (.goto 4, 3) := by decide +kernel
theorem dX7_round_117 : decode cX7_round 117 = .ok (.iconst 0, 1) := by decide +kernel
theorem dX7_round_118 : decode cX7_round 118 = .ok (.ior, 1) := by decide +kernel
theorem dX7_round_119 : decode cX7_round 119 = .ok (.istore 4, 2) := by decide +kernel
theorem dX7_round_121 : decode cX7_round 121 = .ok (.iinc 5 1, 3) := by decide +kernel
theorem dX7_round_124 : decode cX7_round 124 = .ok (.goto (-90), 3) := by decide +kernel
theorem dX7_round_127 : decode cX7_round 127 = .ok (.iload 4, 2) := by decide +kernel
theorem dX7_round_129 : decode cX7_round 129 = .ok (.ireturn, 1) := by decide +kernel
theorem dX7_isSafe_0 : decode cX7_isSafe 0 = .ok (.iconst 1, 1) := by decide +kernel
theorem dX7_isSafe_1 : decode cX7_isSafe 1 = .ok (.istore_n 3, 1) := by decide +kernel
theorem dX7_isSafe_2 : decode cX7_isSafe 2 = .ok (.iconst 0, 1) := by decide +kernel
theorem dX7_isSafe_3 : decode cX7_isSafe 3 = .ok (.istore 4, 2) := by decide +kernel
theorem dX7_isSafe_5 : decode cX7_isSafe 5 = .ok (.iload 4, 2) := by decide +kernel
theorem dX7_isSafe_7 : decode cX7_isSafe 7 = .ok (.aload_n 0, 1) := by decide +kernel
theorem dX7_isSafe_8 : decode cX7_isSafe 8 = .ok (.getfield 35, 3) := by decide +kernel
theorem dX7_isSafe_11 : decode cX7_isSafe 11 = .ok (.if_icmp .ge 42, 3) := by decide +kernel
theorem dX7_isSafe_14 : decode cX7_isSafe 14 = .ok (.iload_n 3, 1) := by decide +kernel
theorem dX7_isSafe_15 : decode cX7_isSafe 15 = .ok (.ifCond .eq 38, 3) := by decide +kernel
theorem dX7_isSafe_18 : decode cX7_isSafe 18 = .ok (.aload_n 0, 1) := by decide +kernel
theorem dX7_isSafe_19 : decode cX7_isSafe 19 = .ok (.iload_n 1, 1) := by decide +kernel
theorem dX7_isSafe_20 : decode cX7_isSafe 20 = .ok (.iload_n 2, 1) := by decide +kernel
theorem dX7_isSafe_21 : decode cX7_isSafe 21 = .ok (.iload 4, 2) := by decide +kernel
theorem dX7_isSafe_23 : decode cX7_isSafe 23 = .ok (.invokevirtual 86, 3) := by decide +kernel
theorem dX7_isSafe_26 : decode cX7_isSafe 26 = .ok (.ifCond .eq 15, 3) := by decide +kernel
theorem dX7_isSafe_29 : decode cX7_isSafe 29 = .ok (.aload_n 0, 1) := by decide +kernel
theorem dX7_isSafe_30 : decode cX7_isSafe 30 = .ok (.iload_n 1, 1) := by decide +kernel
theorem dX7_isSafe_31 : decode cX7_isSafe 31 = .ok (.iload_n 2, 1) := by decide +kernel
theorem dX7_isSafe_32 : decode cX7_isSafe 32 = .ok (.iconst 1, 1) := by decide +kernel
theorem dX7_isSafe_33 : decode cX7_isSafe 33 = .ok (.iload 4, 2) := by decide +kernel
theorem dX7_isSafe_35 : decode cX7_isSafe 35 = .ok (.invokevirtual 169, 3) := by decide +kernel
theorem dX7_isSafe_38 : decode cX7_isSafe 38 = .ok (.ifCond .ne 7, 3) := by decide +kernel
theorem dX7_isSafe_41 : decode cX7_isSafe 41 = .ok (.iconst 1, 1) := by decide +kernel
theorem dX7_isSafe_42 : decode cX7_isSafe 42 = .ok (.goto 4, 3) := by decide +kernel
theorem dX7_isSafe_45 : decode cX7_isSafe 45 = .ok (.iconst 0, 1) := by decide +kernel
theorem dX7_isSafe_46 : decode cX7_isSafe 46 = .ok (.istore_n 3, 1) := by decide +kernel
theorem dX7_isSafe_47 : decode cX7_isSafe 47 = .ok (.iinc 4 1, 3) := by decide +kernel
theorem dX7_isSafe_50 : decode cX7_isSafe 50 = .ok (.goto (-45), 3) := by decide +kernel
theorem dX7_isSafe_53 : decode cX7_isSafe 53 = .ok (.iload_n 3, 1) := by decide +kernel
theorem dX7_isSafe_54 : decode cX7_isSafe 54 = .ok (.ireturn, 1) := by decide +kernel
theorem dX7_counts_0 : decode cX7_counts 0 = .ok (.aload_n 0, 1) := by decide +kernel
theorem dX7_counts_1 : decode cX7_counts 1 = .ok (.iload_n 1, 1) := by decide +kernel
theorem dX7_counts_2 : decode cX7_counts 2 = .ok (.iload_n 2, 1) := by decide +kernel
theorem dX7_counts_3 : decode cX7_counts 3 = .ok (.invokevirtual 113, 3) := by decide +kernel
theorem dX7_counts_6 : decode cX7_counts 6 = .ok (.istore 4, 2) := by decide +kernel
theorem dX7_counts_8 : decode cX7_counts 8 = .ok (.iload_n 3, 1) := by decide +kernel
theorem dX7_counts_9 : decode cX7_counts 9 = .ok (.tableswitch 130 0 6 #[43, 45, 45, 45, 61, 76, 103], 43) := by decide +kernel
theorem dX7_counts_52 : decode cX7_counts 52 = .ok (.iconst 1, 1) := by decide +kernel
theorem dX7_counts_53 : decode cX7_counts 53 = .ok (.ireturn, 1) := by decide +kernel
theorem dX7_counts_54 : decode cX7_counts 54 = .ok (.aload_n 0, 1) := by decide +kernel
theorem dX7_counts_55 : decode cX7_counts 55 = .ok (.iload_n 1, 1) := by decide +kernel
theorem dX7_counts_56 : decode cX7_counts 56 = .ok (.iload_n 2, 1) := by decide +kernel
theorem dX7_counts_57 : decode cX7_counts 57 = .ok (.invokevirtual 131, 3) := by decide +kernel
theorem dX7_counts_60 : decode cX7_counts 60 = .ok (.iload_n 3, 1) := by decide +kernel
theorem dX7_counts_61 : decode cX7_counts 61 = .ok (.if_icmp .ne 7, 3) := by decide +kernel
theorem dX7_counts_64 : decode cX7_counts 64 = .ok (.iconst 1, 1) := by decide +kernel
theorem dX7_counts_65 : decode cX7_counts 65 = .ok (.goto 4, 3) := by decide +kernel
theorem dX7_counts_68 : decode cX7_counts 68 = .ok (.iconst 0, 1) := by decide +kernel
theorem dX7_counts_69 : decode cX7_counts 69 = .ok (.ireturn, 1) := by decide +kernel
theorem dX7_counts_70 : decode cX7_counts 70 = .ok (.aload_n 0, 1) := by decide +kernel
theorem dX7_counts_71 : decode cX7_counts 71 = .ok (.iload_n 1, 1) := by decide +kernel
theorem dX7_counts_72 : decode cX7_counts 72 = .ok (.iload_n 2, 1) := by decide +kernel
theorem dX7_counts_73 : decode cX7_counts 73 = .ok (.invokevirtual 131, 3) := by decide +kernel
theorem dX7_counts_76 : decode cX7_counts 76 = .ok (.ifCond .ne 7, 3) := by decide +kernel
theorem dX7_counts_79 : decode cX7_counts 79 = .ok (.iconst 1, 1) := by decide +kernel
theorem dX7_counts_80 : decode cX7_counts 80 = .ok (.goto 4, 3) := by decide +kernel
theorem dX7_counts_83 : decode cX7_counts 83 = .ok (.iconst 0, 1) := by decide +kernel
theorem dX7_counts_84 : decode cX7_counts 84 = .ok (.ireturn, 1) := by decide +kernel
theorem dX7_counts_85 : decode cX7_counts 85 = .ok (.iload 4, 2) := by decide +kernel
theorem dX7_counts_87 : decode cX7_counts 87 = .ok (.ifCond .lt 23, 3) := by decide +kernel
theorem dX7_counts_90 : decode cX7_counts 90 = .ok (.aload_n 0, 1) := by decide +kernel
theorem dX7_counts_91 : decode cX7_counts 91 = .ok (.iload_n 1, 1) := by decide +kernel
theorem dX7_counts_92 : decode cX7_counts 92 = .ok (.iload_n 2, 1) := by decide +kernel
theorem dX7_counts_93 : decode cX7_counts 93 = .ok (.iconst 2, 1) := by decide +kernel
theorem dX7_counts_94 : decode cX7_counts 94 = .ok (.invokevirtual 102, 3) := by decide +kernel
theorem dX7_counts_97 : decode cX7_counts 97 = .ok (.iload 4, 2) := by decide +kernel
theorem dX7_counts_99 : decode cX7_counts 99 = .ok (.ishr, 1) := by decide +kernel
theorem dX7_counts_100 : decode cX7_counts 100 = .ok (.iconst 1, 1) := by decide +kernel
theorem dX7_counts_101 : decode cX7_counts 101 = .ok (.iand, 1) := by decide +kernel
theorem dX7_counts_102 : decode cX7_counts 102 = .ok (.iconst 1, 1) := by decide +kernel
theorem dX7_counts_103 : decode cX7_counts 103 = .ok (.if_icmp .ne 7, 3) := by decide +kernel
theorem dX7_counts_106 : decode cX7_counts 106 = .ok (.iconst 1, 1) := by decide +kernel
theorem dX7_counts_107 : decode cX7_counts 107 = .ok (.goto 4, 3) := by decide +kernel
theorem dX7_counts_110 : decode cX7_counts 110 = .ok (.iconst 0, 1) := by decide +kernel
theorem dX7_counts_111 : decode cX7_counts 111 = .ok (.ireturn, 1) := by decide +kernel
theorem dX7_counts_112 : decode cX7_counts 112 = .ok (.iload 4, 2) := by decide +kernel
theorem dX7_counts_114 : decode cX7_counts 114 = .ok (.ifCond .lt 23, 3) := by decide +kernel
theorem dX7_counts_117 : decode cX7_counts 117 = .ok (.aload_n 0, 1) := by decide +kernel
theorem dX7_counts_118 : decode cX7_counts 118 = .ok (.iload_n 1, 1) := by decide +kernel
theorem dX7_counts_119 : decode cX7_counts 119 = .ok (.iload_n 2, 1) := by decide +kernel
theorem dX7_counts_120 : decode cX7_counts 120 = .ok (.iconst 3, 1) := by decide +kernel
theorem dX7_counts_121 : decode cX7_counts 121 = .ok (.invokevirtual 102, 3) := by decide +kernel
theorem dX7_counts_124 : decode cX7_counts 124 = .ok (.iload 4, 2) := by decide +kernel
theorem dX7_counts_126 : decode cX7_counts 126 = .ok (.ishr, 1) := by decide +kernel
theorem dX7_counts_127 : decode cX7_counts 127 = .ok (.iconst 1, 1) := by decide +kernel
theorem dX7_counts_128 : decode cX7_counts 128 = .ok (.iand, 1) := by decide +kernel
theorem dX7_counts_129 : decode cX7_counts 129 = .ok (.iconst 1, 1) := by decide +kernel
theorem dX7_counts_130 : decode cX7_counts 130 = .ok (.if_icmp .ne 7, 3) := by decide +kernel
theorem dX7_counts_133 : decode cX7_counts 133 = .ok (.iconst 1, 1) := by decide +kernel
theorem dX7_counts_134 : decode cX7_counts 134 = .ok (.goto 4, 3) := by decide +kernel
theorem dX7_counts_137 : decode cX7_counts 137 = .ok (.iconst 0, 1) := by decide +kernel
theorem dX7_counts_138 : decode cX7_counts 138 = .ok (.ireturn, 1) := by decide +kernel
theorem dX7_counts_139 : decode cX7_counts 139 = .ok (.aload_n 0, 1) := by decide +kernel
theorem dX7_counts_140 : decode cX7_counts 140 = .ok (.iload_n 1, 1) := by decide +kernel
theorem dX7_counts_141 : decode cX7_counts 141 = .ok (.iload_n 2, 1) := by decide +kernel
theorem dX7_counts_142 : decode cX7_counts 142 = .ok (.invokevirtual 182, 3) := by decide +kernel
theorem dX7_counts_145 : decode cX7_counts 145 = .ok (.ireturn, 1) := by decide +kernel
theorem dX7_covered_0 : decode cX7_covered 0 = .ok (.aload_n 0, 1) := by decide +kernel
theorem dX7_covered_1 : decode cX7_covered 1 = .ok (.iconst 0, 1) := by decide +kernel
theorem dX7_covered_2 : decode cX7_covered 2 = .ok (.putfield 32, 3) := by decide +kernel
theorem dX7_covered_5 : decode cX7_covered 5 = .ok (.iload_n 1, 1) := by decide +kernel
theorem dX7_covered_6 : decode cX7_covered 6 = .ok (.iconst 0, 1) := by decide +kernel
theorem dX7_covered_7 : decode cX7_covered 7 = .ok (.bipush 7, 2) := by decide +kernel
theorem dX7_covered_9 : decode cX7_covered 9 = .ok (.invokestatic 42, 3) := by decide +kernel
theorem dX7_covered_12 : decode cX7_covered 12 = .ok (.ifCond .ne 5, 3) := by decide +kernel
theorem dX7_covered_15 : decode cX7_covered 15 = .ok (.iconst (-1), 1) := by decide +kernel
theorem dX7_covered_16 : decode cX7_covered 16 = .ok (.ireturn, 1) := by decide +kernel
theorem dX7_covered_17 : decode cX7_covered 17 = .ok (.aload_n 0, 1) := by decide +kernel
theorem dX7_covered_18 : decode cX7_covered 18 = .ok (.invokevirtual 83, 3) := by decide +kernel
theorem dX7_covered_21 : decode cX7_covered 21 = .ok (.iconst 0, 1) := by decide +kernel
theorem dX7_covered_22 : decode cX7_covered 22 = .ok (.istore_n 2, 1) := by decide +kernel
theorem dX7_covered_23 : decode cX7_covered 23 = .ok (.iconst 0, 1) := by decide +kernel
theorem dX7_covered_24 : decode cX7_covered 24 = .ok (.istore_n 3, 1) := by decide +kernel
theorem dX7_covered_25 : decode cX7_covered 25 = .ok (.iload_n 3, 1) := by decide +kernel
theorem dX7_covered_26 : decode cX7_covered 26 = .ok (.aload_n 0, 1) := by decide +kernel
theorem dX7_covered_27 : decode cX7_covered 27 = .ok (.getfield 7, 3) := by decide +kernel
theorem dX7_covered_30 : decode cX7_covered 30 = .ok (.if_icmp .ge 58, 3) := by decide +kernel
theorem dX7_covered_33 : decode cX7_covered 33 = .ok (.iconst 0, 1) := by decide +kernel
theorem dX7_covered_34 : decode cX7_covered 34 = .ok (.istore 4, 2) := by decide +kernel
theorem dX7_covered_36 : decode cX7_covered 36 = .ok (.iload 4, 2) := by decide +kernel
theorem dX7_covered_38 : decode cX7_covered 38 = .ok (.aload_n 0, 1) := by decide +kernel
theorem dX7_covered_39 : decode cX7_covered 39 = .ok (.getfield 7, 3) := by decide +kernel
theorem dX7_covered_42 : decode cX7_covered 42 = .ok (.if_icmp .ge 40, 3) := by decide +kernel
theorem dX7_covered_45 : decode cX7_covered 45 = .ok (.iload_n 2, 1) := by decide +kernel
