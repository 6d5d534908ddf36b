/-! decode rows, as printed -/
theorem dX0_init_0 : decode cX0_init 0 = .ok (.aload_n 0, 1) := by decide +kernel
theorem dX0_init_1 : decode cX0_init 1 = .ok (.invokespecial 3, 3) := by decide +kernel
theorem dX0_init_4 : decode cX0_init 4 = .ok (.aload_n 0, 1) := by decide +kernel
theorem dX0_init_5 : decode cX0_init 5 = .ok (.bipush 12, 2) := by decide +kernel
theorem dX0_init_7 : decode cX0_init 7 = .ok (.newarray .int, 2) := by decide +kernel
theorem dX0_init_9 : decode cX0_init 9 = .ok (.putfield 9, 3) := by decide +kernel
theorem dX0_init_12 : decode cX0_init 12 = .ok (.aload_n 0, 1) := by decide +kernel
theorem dX0_init_13 : decode cX0_init 13 = .ok (.bipush 12, 2) := by decide +kernel
theorem dX0_init_15 : decode cX0_init 15 = .ok (.newarray .int, 2) := by decide +kernel
theorem dX0_init_17 : decode cX0_init 17 = .ok (.putfield 15, 3) := by decide +kernel
theorem dX0_init_20 : decode cX0_init 20 = .ok (.return_, 1) := by decide +kernel
theorem dX0_farWithout_0 : decode cX0_farWithout 0 = .ok (.aload_n 1, 1) := by decide +kernel
theorem dX0_farWithout_1 : decode cX0_farWithout 1 = .ok (.aload_n 0, 1) := by decide +kernel
theorem dX0_farWithout_2 : decode cX0_farWithout 2 = .ok (.getfield 9, 3) := by decide +kernel
theorem dX0_farWithout_5 : decode cX0_farWithout 5 = .ok (.iload 4, 2) := by decide +kernel
theorem dX0_farWithout_7 : decode cX0_farWithout 7 = .ok (.iload_n 2, 1) := by decide +kernel
theorem dX0_farWithout_8 : decode cX0_farWithout 8 = .ok (.invokevirtual 18, 3) := by decide +kernel
theorem dX0_farWithout_11 : decode cX0_farWithout 11 = .ok (.aload_n 0, 1) := by decide +kernel
theorem dX0_farWithout_12 : decode cX0_farWithout 12 = .ok (.getfield 9, 3) := by decide +kernel
theorem dX0_farWithout_15 : decode cX0_farWithout 15 = .ok (.iload_n 3, 1) := by decide +kernel
theorem dX0_farWithout_16 : decode cX0_farWithout 16 = .ok (.iaload, 1) := by decide +kernel
theorem dX0_farWithout_17 : decode cX0_farWithout 17 = .ok (.ireturn, 1) := by decide +kernel
theorem dX0_hopWithout_0 : decode cX0_hopWithout 0 = .ok (.aload_n 1, 1) := by decide +kernel
theorem dX0_hopWithout_1 : decode cX0_hopWithout 1 = .ok (.aload_n 0, 1) := by decide +kernel
theorem dX0_hopWithout_2 : decode cX0_hopWithout 2 = .ok (.getfield 9, 3) := by decide +kernel
theorem dX0_hopWithout_5 : decode cX0_hopWithout 5 = .ok (.iload 4, 2) := by decide +kernel
theorem dX0_hopWithout_7 : decode cX0_hopWithout 7 = .ok (.iload_n 2, 1) := by decide +kernel
theorem dX0_hopWithout_8 : decode cX0_hopWithout 8 = .ok (.invokevirtual 18, 3) := by decide +kernel
theorem dX0_hopWithout_11 : decode cX0_hopWithout 11 = .ok (.aload_n 1, 1) := by decide +kernel
theorem dX0_hopWithout_12 : decode cX0_hopWithout 12 = .ok (.aload_n 0, 1) := by decide +kernel
theorem dX0_hopWithout_13 : decode cX0_hopWithout 13 = .ok (.getfield 9, 3) := by decide +kernel
theorem dX0_hopWithout_16 : decode cX0_hopWithout 16 = .ok (.iload_n 3, 1) := by decide +kernel
theorem dX0_hopWithout_17 : decode cX0_hopWithout 17 = .ok (.iload_n 2, 1) := by decide +kernel
theorem dX0_hopWithout_18 : decode cX0_hopWithout 18 = .ok (.invokevirtual 24, 3) := by decide +kernel
theorem dX0_hopWithout_21 : decode cX0_hopWithout 21 = .ok (.ireturn, 1) := by decide +kernel
theorem dX0_hitNodes_0 : decode cX0_hitNodes 0 = .ok (.iconst 0, 1) := by decide +kernel
theorem dX0_hitNodes_1 : decode cX0_hitNodes 1 = .ok (.istore 4, 2) := by decide +kernel
theorem dX0_hitNodes_3 : decode cX0_hitNodes 3 = .ok (.iconst 0, 1) := by decide +kernel
theorem dX0_hitNodes_4 : decode cX0_hitNodes 4 = .ok (.istore 5, 2) := by decide +kernel
theorem dX0_hitNodes_6 : decode cX0_hitNodes 6 = .ok (.iload 5, 2) := by decide +kernel
theorem dX0_hitNodes_8 : decode cX0_hitNodes 8 = .ok (.aload_n 1, 1) := by decide +kernel
theorem dX0_hitNodes_9 : decode cX0_hitNodes 9 = .ok (.getfield 28, 3) := by decide +kernel
theorem dX0_hitNodes_12 : decode cX0_hitNodes 12 = .ok (.if_icmp .ge 30, 3) := by decide +kernel
theorem dX0_hitNodes_15 : decode cX0_hitNodes 15 = .ok (.aload_n 0, 1) := by decide +kernel
theorem dX0_hitNodes_16 : decode cX0_hitNodes 16 = .ok (.aload_n 1, 1) := by decide +kernel
theorem dX0_hitNodes_17 : decode cX0_hitNodes 17 = .ok (.iload_n 2, 1) := by decide +kernel
theorem dX0_hitNodes_18 : decode cX0_hitNodes 18 = .ok (.iload_n 3, 1) := by decide +kernel
theorem dX0_hitNodes_19 : decode cX0_hitNodes 19 = .ok (.iload 5, 2) := by decide +kernel
theorem dX0_hitNodes_21 : decode cX0_hitNodes 21 = .ok (.invokevirtual 32, 3) := by decide +kernel
theorem dX0_hitNodes_24 : decode cX0_hitNodes 24 = .ok (.ifCond .eq 12, 3) := by decide +kernel
theorem dX0_hitNodes_27 : decode cX0_hitNodes 27 = .ok (.iload 4, 2) := by decide +kernel
theorem dX0_hitNodes_29 : decode cX0_hitNodes 29 = .ok (.iconst 1, 1) := by decide +kernel
theorem dX0_hitNodes_30 : decode cX0_hitNodes 30 = .ok (.iload 5, 2) := by decide +kernel
theorem dX0_hitNodes_32 : decode cX0_hitNodes 32 = .ok (.ishl, 1) := by decide +kernel
theorem dX0_hitNodes_33 : decode cX0_hitNodes 33 = .ok (.ior, 1) := by decide +kernel
theorem dX0_hitNodes_34 : decode cX0_hitNodes 34 = .ok (.istore 4, 2) := by decide +kernel
theorem dX0_hitNodes_36 : decode cX0_hitNodes 36 = .ok (.iinc 5 1, 3) := by decide +kernel
theorem dX0_hitNodes_39 : decode cX0_hitNodes 39 = .ok (.goto (-33), 3) := by decide +kernel
theorem dX0_hitNodes_42 : decode cX0_hitNodes 42 = .ok (.iload 4, 2) := by decide +kernel
theorem dX0_hitNodes_44 : decode cX0_hitNodes 44 = .ok (.ireturn, 1) := by decide +kernel
theorem dX0_isHit_0 : decode cX0_isHit 0 = .ok (.iload 4, 2) := by decide +kernel
theorem dX0_isHit_2 : decode cX0_isHit 2 = .ok (.istore 5, 2) := by decide +kernel
theorem dX0_isHit_4 : decode cX0_isHit 4 = .ok (.iconst 0, 1) := by decide +kernel
theorem dX0_isHit_5 : decode cX0_isHit 5 = .ok (.istore 6, 2) := by decide +kernel
theorem dX0_isHit_7 : decode cX0_isHit 7 = .ok (.iload 6, 2) := by decide +kernel
theorem dX0_isHit_9 : decode cX0_isHit 9 = .ok (.aload_n 1, 1) := by decide +kernel
theorem dX0_isHit_10 : decode cX0_isHit 10 = .ok (.getfield 28, 3) := by decide +kernel
theorem dX0_isHit_13 : decode cX0_isHit 13 = .ok (.if_icmp .ge 44, 3) := by decide +kernel
theorem dX0_isHit_16 : decode cX0_isHit 16 = .ok (.aload_n 1, 1) := by decide +kernel
theorem dX0_isHit_17 : decode cX0_isHit 17 = .ok (.iload 5, 2) := by decide +kernel
theorem dX0_isHit_19 : decode cX0_isHit 19 = .ok (.iload_n 3, 1) := by decide +kernel
theorem dX0_isHit_20 : decode cX0_isHit 20 = .ok (.invokevirtual 36, 3) := by decide +kernel
theorem dX0_isHit_23 : decode cX0_isHit 23 = .ok (.istore 7, 2) := by decide +kernel
theorem dX0_isHit_25 : decode cX0_isHit 25 = .ok (.iload 7, 2) := by decide +kernel
theorem dX0_isHit_27 : decode cX0_isHit 27 = .ok (.iconst (-1), 1) := by decide +kernel
theorem dX0_isHit_28 : decode cX0_isHit 28 = .ok (.if_icmp .ne 5, 3) := by decide +kernel
theorem dX0_isHit_31 : decode cX0_isHit 31 = .ok (.iconst 0, 1) := by decide +kernel
theorem dX0_isHit_32 : decode cX0_isHit 32 = .ok (.ireturn, 1) := by decide +kernel
theorem dX0_isHit_33 : decode cX0_isHit 33 = .ok (.aload_n 1, 1) := by decide +kernel
theorem dX0_isHit_34 : decode cX0_isHit 34 = .ok (.iload 5, 2) := by decide +kernel
theorem dX0_isHit_36 : decode cX0_isHit 36 = .ok (.iload 7, 2) := by decide +kernel
theorem dX0_isHit_38 : decode cX0_isHit 38 = .ok (.invokevirtual 40, 3) := by decide +kernel
theorem dX0_isHit_41 : decode cX0_isHit 41 = .ok (.iload_n 2, 1) := by decide +kernel
theorem dX0_isHit_42 : decode cX0_isHit 42 = .ok (.if_icmp .ne 5, 3) := by decide +kernel
theorem dX0_isHit_45 : decode cX0_isHit 45 = .ok (.iconst 1, 1) := by decide +kernel
theorem dX0_isHit_46 : decode cX0_isHit 46 = .ok (.ireturn, 1) := by decide +kernel
theorem dX0_isHit_47 : decode cX0_isHit 47 = .ok (.iload 7, 2) := by decide +kernel
theorem dX0_isHit_49 : decode cX0_isHit 49 = .ok (.istore 5, 2) := by decide +kernel
theorem dX0_isHit_51 : decode cX0_isHit 51 = .ok (.iinc 6 1, 3) := by decide +kernel
theorem dX0_isHit_54 : decode cX0_isHit 54 = .ok (.goto (-47), 3) := by decide +kernel
theorem dX0_isHit_57 : decode cX0_isHit 57 = .ok (.iconst 0, 1) := by decide +kernel
theorem dX0_isHit_58 : decode cX0_isHit 58 = .ok (.ireturn, 1) := by decide +kernel
theorem dX0_waysOver_0 : decode cX0_waysOver 0 = .ok (.iconst 0, 1) := by decide +kernel
theorem dX0_waysOver_1 : decode cX0_waysOver 1 = .ok (.istore_n 3, 1) := by decide +kernel
theorem dX0_waysOver_2 : decode cX0_waysOver 2 = .ok (.iconst 0, 1) := by decide +kernel
theorem dX0_waysOver_3 : decode cX0_waysOver 3 = .ok (.istore 4, 2) := by decide +kernel
theorem dX0_waysOver_5 : decode cX0_waysOver 5 = .ok (.iload 4, 2) := by decide +kernel
theorem dX0_waysOver_7 : decode cX0_waysOver 7 = .ok (.aload_n 1, 1) := by decide +kernel
theorem dX0_waysOver_8 : decode cX0_waysOver 8 = .ok (.getfield 28, 3) := by decide +kernel
theorem dX0_waysOver_11 : decode cX0_waysOver 11 = .ok (.if_icmp .ge 23, 3) := by decide +kernel
theorem dX0_waysOver_14 : decode cX0_waysOver 14 = .ok (.iload_n 3, 1) := by decide +kernel
theorem dX0_waysOver_15 : decode cX0_waysOver 15 = .ok (.aload_n 0, 1) := by decide +kernel
theorem dX0_waysOver_16 : decode cX0_waysOver 16 = .ok (.aload_n 1, 1) := by decide +kernel
theorem dX0_waysOver_17 : decode cX0_waysOver 17 = .ok (.iload_n 2, 1) := by decide +kernel
theorem dX0_waysOver_18 : decode cX0_waysOver 18 = .ok (.iload 4, 2) := by decide +kernel
theorem dX0_waysOver_20 : decode cX0_waysOver 20 = .ok (.invokevirtual 43, 3) := by decide +kernel
theorem dX0_waysOver_23 : decode cX0_waysOver 23 = .ok (.invokestatic 47, 3) := by decide +kernel
theorem dX0_waysOver_26 : decode cX0_waysOver 26 = .ok (.iadd, 1) := by decide +kernel
theorem dX0_waysOver_27 : decode cX0_waysOver 27 = .ok (.istore_n 3, 1) := by decide +kernel
theorem dX0_waysOver_28 : decode cX0_waysOver 28 = .ok (.iinc 4 1, 3) := by decide +kernel
theorem dX0_waysOver_31 : decode cX0_waysOver 31 = .ok (.goto (-26), 3) := by decide +kernel
theorem dX0_waysOver_34 : decode cX0_waysOver 34 = .ok (.iload_n 3, 1) := by decide +kernel
theorem dX0_waysOver_35 : decode cX0_waysOver 35 = .ok (.ireturn, 1) := by decide +kernel
theorem dX0_delay_0 : decode cX0_delay 0 = .ok (.aload_n 0, 1) := by decide +kernel
theorem dX0_delay_1 : decode cX0_delay 1 = .ok (.aload_n 1, 1) := by decide +kernel
theorem dX0_delay_2 : decode cX0_delay 2 = .ok (.iload_n 2, 1) := by decide +kernel
theorem dX0_delay_3 : decode cX0_delay 3 = .ok (.iload_n 3, 1) := by decide +kernel
theorem dX0_delay_4 : decode cX0_delay 4 = .ok (.iload 4, 2) := by decide +kernel
theorem dX0_delay_6 : decode cX0_delay 6 = .ok (.invokevirtual 32, 3) := by decide +kernel
theorem dX0_delay_9 : decode cX0_delay 9 = .ok (.ifCond .ne 5, 3) := by decide +kernel
theorem dX0_delay_12 : decode cX0_delay 12 = .ok (.iconst (-1), 1) := by decide +kernel
theorem dX0_delay_13 : decode cX0_delay 13 = .ok (.ireturn, 1) := by decide +kernel
theorem dX0_delay_14 : decode cX0_delay 14 = .ok (.iconst 0, 1) := by decide +kernel
theorem dX0_delay_15 : decode cX0_delay 15 = .ok (.istore 5, 2) := by decide +kernel
theorem dX0_delay_17 : decode cX0_delay 17 = .ok (.iconst 0, 1) := by decide +kernel
theorem dX0_delay_18 : decode cX0_delay 18 = .ok (.istore 6, 2) := by decide +kernel
theorem dX0_delay_20 : decode cX0_delay 20 = .ok (.iload 6, 2) := by decide +kernel
theorem dX0_delay_22 : decode cX0_delay 22 = .ok (.aload_n 1, 1) := by decide +kernel
theorem dX0_delay_23 : decode cX0_delay 23 = .ok (.getfield 28, 3) := by decide +kernel
theorem dX0_delay_26 : decode cX0_delay 26 = .ok (.if_icmp .ge 26, 3) := by decide +kernel
theorem dX0_delay_29 : decode cX0_delay 29 = .ok (.iload 5, 2) := by decide +kernel
theorem dX0_delay_31 : decode cX0_delay 31 = .ok (.aload_n 0, 1) := by decide +kernel
theorem dX0_delay_32 : decode cX0_delay 32 = .ok (.aload_n 1, 1) := by decide +kernel
theorem dX0_delay_33 : decode cX0_delay 33 = .ok (.iload 6, 2) := by decide +kernel
theorem dX0_delay_35 : decode cX0_delay 35 = .ok (.iload_n 3, 1) := by decide +kernel
theorem dX0_delay_36 : decode cX0_delay 36 = .ok (.iload 4, 2) := by decide +kernel
theorem dX0_delay_38 : decode cX0_delay 38 = .ok (.invokevirtual 53, 3) := by decide +kernel
theorem dX0_delay_41 : decode cX0_delay 41 = .ok (.invokestatic 57, 3) := by decide +kernel
theorem dX0_delay_44 : decode cX0_delay 44 = .ok (.istore 5, 2) := by decide +kernel
theorem dX0_delay_46 : decode cX0_delay 46 = .ok (.iinc 6 1, 3) := by decide +kernel
theorem dX0_delay_49 : decode cX0_delay 49 = .ok (.goto (-29), 3) := by decide +kernel
theorem dX0_delay_52 : decode cX0_delay 52 = .ok (.iload 5, 2) := by decide +kernel
theorem dX0_delay_54 : decode cX0_delay 54 = .ok (.ireturn, 1) := by decide +kernel
theorem dX0_stepsUpTo_0 : decode cX0_stepsUpTo 0 = .ok (.iload_n 2, 1) := by decide +kernel
theorem dX0_stepsUpTo_1 : decode cX0_stepsUpTo 1 = .ok (.istore 5, 2) := by decide +kernel
theorem dX0_stepsUpTo_3 : decode cX0_stepsUpTo 3 = .ok (.iconst 0, 1) := by decide +kernel
theorem dX0_stepsUpTo_4 : decode cX0_stepsUpTo 4 = .ok (.istore 6, 2) := by decide +kernel
theorem dX0_stepsUpTo_6 : decode cX0_stepsUpTo 6 = .ok (.iload 6, 2) := by decide +kernel
theorem dX0_stepsUpTo_8 : decode cX0_stepsUpTo 8 = .ok (.aload_n 1, 1) := by decide +kernel
theorem dX0_stepsUpTo_9 : decode cX0_stepsUpTo 9 = .ok (.getfield 28, 3) := by decide +kernel
theorem dX0_stepsUpTo_12 : decode cX0_stepsUpTo 12 = .ok (.if_icmp .ge 34, 3) := by decide +kernel
theorem dX0_stepsUpTo_15 : decode cX0_stepsUpTo 15 = .ok (.iload 5, 2) := by decide +kernel
theorem dX0_stepsUpTo_17 : decode cX0_stepsUpTo 17 = .ok (.iconst (-1), 1) := by decide +kernel
theorem dX0_stepsUpTo_18 : decode cX0_stepsUpTo 18 = .ok (.if_icmp .eq 28, 3) := by decide +kernel
theorem dX0_stepsUpTo_21 : decode cX0_stepsUpTo 21 = .ok (.iload 5, 2) := by decide +kernel
theorem dX0_stepsUpTo_23 : decode cX0_stepsUpTo 23 = .ok (.iload 4, 2) := by decide +kernel
theorem dX0_stepsUpTo_25 : decode cX0_stepsUpTo 25 = .ok (.if_icmp .ne 6, 3) := by decide +kernel
theorem dX0_stepsUpTo_28 : decode cX0_stepsUpTo 28 = .ok (.iload 6, 2) := by decide +kernel
theorem dX0_stepsUpTo_30 : decode cX0_stepsUpTo 30 = .ok (.ireturn, 1) := by decide +kernel
theorem dX0_stepsUpTo_31 : decode cX0_stepsUpTo 31 = .ok (.aload_n 1, 1) := by decide +kernel
theorem dX0_stepsUpTo_32 : decode cX0_stepsUpTo 32 = .ok (.iload 5, 2) := by decide +kernel
theorem dX0_stepsUpTo_34 : decode cX0_stepsUpTo 34 = .ok (.iload_n 3, 1) := by decide +kernel
theorem dX0_stepsUpTo_35 : decode cX0_stepsUpTo 35 = .ok (.invokevirtual 36, 3) := by decide +kernel
theorem dX0_stepsUpTo_38 : decode cX0_stepsUpTo 38 = .ok (.istore 5, 2) := by decide +kernel
theorem dX0_stepsUpTo_40 : decode cX0_stepsUpTo 40 = .ok (.iinc 6 1, 3) := by decide +kernel
theorem dX0_stepsUpTo_43 : decode cX0_stepsUpTo 43 = .ok (.goto (-37), 3) := by decide +kernel
theorem dX0_stepsUpTo_46 : decode cX0_stepsUpTo 46 = .ok (.iconst (-1), 1) := by decide +kernel
theorem dX0_stepsUpTo_47 : decode cX0_stepsUpTo 47 = .ok (.ireturn, 1) := by decide +kernel
theorem dX0_longestDelay_0 : decode cX0_longestDelay 0 = .ok (.iconst (-1), 1) := by decide +kernel
theorem dX0_longestDelay_1 : decode cX0_longestDelay 1 = .ok (.istore 4, 2) := by decide +kernel
theorem dX0_longestDelay_3 : decode cX0_longestDelay 3 = .ok (.iconst 0, 1) := by decide +kernel
theorem dX0_longestDelay_4 : decode cX0_longestDelay 4 = .ok (.istore 5, 2) := by decide +kernel
theorem dX0_longestDelay_6 : decode cX0_longestDelay 6 = .ok (.iload 5, 2) := by decide +kernel
theorem dX0_longestDelay_8 : decode cX0_longestDelay 8 = .ok (.aload_n 1, 1) := by decide +kernel
theorem dX0_longestDelay_9 : decode cX0_longestDelay 9 = .ok (.getfield 28, 3) := by decide +kernel
theorem dX0_longestDelay_12 : decode cX0_longestDelay 12 = .ok (.if_icmp .ge 25, 3) := by decide +kernel
theorem dX0_longestDelay_15 : decode cX0_longestDelay 15 = .ok (.iload 4, 2) := by decide +kernel
theorem dX0_longestDelay_17 : decode cX0_longestDelay 17 = .ok (.aload_n 0, 1) := by decide +kernel
theorem dX0_longestDelay_18 : decode cX0_longestDelay 18 = .ok (.aload_n 1, 1) := by decide +kernel
theorem dX0_longestDelay_19 : decode cX0_longestDelay 19 = .ok (.iload_n 2, 1) := by decide +kernel
theorem dX0_longestDelay_20 : decode cX0_longestDelay 20 = .ok (.iload 5, 2) := by decide +kernel
theorem dX0_longestDelay_22 : decode cX0_longestDelay 22 = .ok (.iload_n 3, 1) := by decide +kernel
theorem dX0_longestDelay_23 : decode cX0_longestDelay 23 = .ok (.invokevirtual 62, 3) := by decide +kernel
theorem dX0_longestDelay_26 : decode cX0_longestDelay 26 = .ok (.invokestatic 57, 3) := by decide +kernel
theorem dX0_longestDelay_29 : decode cX0_longestDelay 29 = .ok (.istore 4, 2) := by decide +kernel
theorem dX0_longestDelay_31 : decode cX0_longestDelay 31 = .ok (.iinc 5 1, 3) := by decide +kernel
theorem dX0_longestDelay_34 : decode cX0_longestDelay 34 = .ok (.goto (-28), 3) := by decide +kernel
theorem dX0_longestDelay_37 : decode cX0_longestDelay 37 = .ok (.iload 4, 2) := by decide +kernel
theorem dX0_longestDelay_39 : decode cX0_longestDelay 39 = .ok (.ireturn, 1) := by decide +kernel
theorem dX0_circling_0 : decode cX0_circling 0 = .ok (.aload_n 1, 1) := by decide +kernel
theorem dX0_circling_1 : decode cX0_circling 1 = .ok (.aload_n 0, 1) := by decide +kernel
theorem dX0_circling_2 : decode cX0_circling 2 = .ok (.getfield 9, 3) := by decide +kernel
theorem dX0_circling_5 : decode cX0_circling 5 = .ok (.iload_n 3, 1) := by decide +kernel
theorem dX0_circling_6 : decode cX0_circling 6 = .ok (.iload_n 2, 1) := by decide +kernel
theorem dX0_circling_7 : decode cX0_circling 7 = .ok (.invokevirtual 18, 3) := by decide +kernel
theorem dX0_circling_10 : decode cX0_circling 10 = .ok (.iconst 0, 1) := by decide +kernel
theorem dX0_circling_11 : decode cX0_circling 11 = .ok (.istore 5, 2) := by decide +kernel
theorem dX0_circling_13 : decode cX0_circling 13 = .ok (.iload 5, 2) := by decide +kernel
theorem dX0_circling_15 : decode cX0_circling 15 = .ok (.aload_n 1, 1) := by decide +kernel
theorem dX0_circling_16 : decode cX0_circling 16 = .ok (.getfield 28, 3) := by decide +kernel
theorem dX0_circling_19 : decode cX0_circling 19 = .ok (.if_icmp .ge 47, 3) := by decide +kernel
theorem dX0_circling_22 : decode cX0_circling 22 = .ok (.aload_n 0, 1) := by decide +kernel
theorem dX0_circling_23 : decode cX0_circling 23 = .ok (.getfield 15, 3) := by decide +kernel
theorem dX0_circling_26 : decode cX0_circling 26 = .ok (.iload 5, 2) := by decide +kernel
theorem dX0_circling_28 : decode cX0_circling 28 = .ok (.iload 4, 2) := by decide +kernel
theorem dX0_circling_30 : decode cX0_circling 30 = .ok (.iload 5, 2) := by decide +kernel
theorem dX0_circling_32 : decode cX0_circling 32 = .ok (.invokestatic 65, 3) := by decide +kernel
theorem dX0_circling_35 : decode cX0_circling 35 = .ok (.ifCond .eq 17, 3) := by decide +kernel
theorem dX0_circling_38 : decode cX0_circling 38 = .ok (.aload_n 1, 1) := by decide +kernel
theorem dX0_circling_39 : decode cX0_circling 39 = .ok (.aload_n 0, 1) := by decide +kernel
theorem dX0_circling_40 : decode cX0_circling 40 = .ok (.getfield 9, 3) := by decide +kernel
theorem dX0_circling_43 : decode cX0_circling 43 = .ok (.iload 5, 2) := by decide +kernel
theorem dX0_circling_45 : decode cX0_circling 45 = .ok (.iload_n 2, 1) := by decide +kernel
theorem dX0_circling_46 : decode cX0_circling 46 = .ok (.invokevirtual 24, 3) := by decide +kernel
theorem dX0_circling_49 : decode cX0_circling 49 = .ok (.goto 10, 3) := by decide +kernel
theorem dX0_circling_52 : decode cX0_circling 52 = .ok (.aload_n 1, 1) := by decide +kernel
theorem dX0_circling_53 : decode cX0_circling 53 = .ok (.iload 5, 2) := by decide +kernel
theorem dX0_circling_55 : decode cX0_circling 55 = .ok (.iload_n 3, 1) := by decide +kernel
theorem dX0_circling_56 : decode cX0_circling 56 = .ok (.invokevirtual 36, 3) := by decide +kernel
theorem dX0_circling_59 : decode cX0_circling 59 = .ok (.iastore, 1) := by decide +kernel
theorem dX0_circling_60 : decode cX0_circling 60 = .ok (.iinc 5 1, 3) := by decide +kernel
theorem dX0_circling_63 : decode cX0_circling 63 = .ok (.goto (-50), 3) := by decide +kernel
theorem dX0_circling_66 : decode cX0_circling 66 = .ok (.iconst 0, 1) := by decide +kernel
theorem dX0_circling_67 : decode cX0_circling 67 = .ok (.istore 5, 2) := by decide +kernel
theorem dX0_circling_69 : decode cX0_circling 69 = .ok (.iconst 0, 1) := by decide +kernel
theorem dX0_circling_70 : decode cX0_circling 70 = .ok (.istore 6, 2) := by decide +kernel
theorem dX0_circling_72 : decode cX0_circling 72 = .ok (.iload 6, 2) := by decide +kernel
theorem dX0_circling_74 : decode cX0_circling 74 = .ok (.aload_n 1, 1) := by decide +kernel
theorem dX0_circling_75 : decode cX0_circling 75 = .ok (.getfield 28, 3) := by decide +kernel
theorem dX0_circling_78 : decode cX0_circling 78 = .ok (.if_icmp .ge 28, 3) := by decide +kernel
theorem dX0_circling_81 : decode cX0_circling 81 = .ok (.aload_n 0, 1) := by decide +kernel
theorem dX0_circling_82 : decode cX0_circling 82 = .ok (.aload_n 1, 1) := by decide +kernel
theorem dX0_circling_83 : decode cX0_circling 83 = .ok (.iload 6, 2) := by decide +kernel
theorem dX0_circling_85 : decode cX0_circling 85 = .ok (.invokevirtual 69, 3) := by decide +kernel
theorem dX0_circling_88 : decode cX0_circling 88 = .ok (.ifCond .ne 12, 3) := by decide +kernel
theorem dX0_circling_91 : decode cX0_circling 91 = .ok (.iload 5, 2) := by decide +kernel
theorem dX0_circling_93 : decode cX0_circling 93 = .ok (.iconst 1, 1) := by decide +kernel
theorem dX0_circling_94 : decode cX0_circling 94 = .ok (.iload 6, 2) := by decide +kernel
theorem dX0_circling_96 : decode cX0_circling 96 = .ok (.ishl, 1) := by decide +kernel
theorem dX0_circling_97 : decode cX0_circling 97 = .ok (.ior, 1) := by decide +kernel
theorem dX0_circling_98 : decode cX0_circling 98 = .ok (.istore 5, 2) := by decide +kernel
theorem dX0_circling_100 : decode cX0_circling 100 = .ok (.iinc 6 1, 3) := by decide +kernel
theorem dX0_circling_103 : decode cX0_circling 103 = .ok (.goto (-31), 3) := by decide +kernel
theorem dX0_circling_106 : decode cX0_circling 106 = .ok (.iload 5, 2) := by decide +kernel
theorem dX0_circling_108 : decode cX0_circling 108 = .ok (.ireturn, 1) := by decide +kernel
theorem dX0_comesToAnEnd_0 : decode cX0_comesToAnEnd 0 = .ok (.iload_n 2, 1) := by decide +kernel
theorem dX0_comesToAnEnd_1 : decode cX0_comesToAnEnd 1 = .ok (.istore_n 3, 1) := by decide +kernel
theorem dX0_comesToAnEnd_2 : decode cX0_comesToAnEnd 2 = .ok (.iconst 0, 1) := by decide +kernel
theorem dX0_comesToAnEnd_3 : decode cX0_comesToAnEnd 3 = .ok (.istore 4, 2) := by decide +kernel
theorem dX0_comesToAnEnd_5 : decode cX0_comesToAnEnd 5 = .ok (.iload 4, 2) := by decide +kernel
theorem dX0_comesToAnEnd_7 : decode cX0_comesToAnEnd 7 = .ok (.aload_n 1, 1) := by decide +kernel
theorem dX0_comesToAnEnd_8 : decode cX0_comesToAnEnd 8 = .ok (.getfield 28, 3) := by decide +kernel
theorem dX0_comesToAnEnd_11 : decode cX0_comesToAnEnd 11 = .ok (.if_icmp .ge 23, 3) := by decide +kernel
theorem dX0_comesToAnEnd_14 : decode cX0_comesToAnEnd 14 = .ok (.aload_n 0, 1) := by decide +kernel
theorem dX0_comesToAnEnd_15 : decode cX0_comesToAnEnd 15 = .ok (.getfield 15, 3) := by decide +kernel
theorem dX0_comesToAnEnd_18 : decode cX0_comesToAnEnd 18 = .ok (.iload_n 3, 1) := by decide +kernel
theorem dX0_comesToAnEnd_19 : decode cX0_comesToAnEnd 19 = .ok (.iaload, 1) := by decide +kernel
theorem dX0_comesToAnEnd_20 : decode cX0_comesToAnEnd 20 = .ok (.istore_n 3, 1) := by decide +kernel
theorem dX0_comesToAnEnd_21 : decode cX0_comesToAnEnd 21 = .ok (.iload_n 3, 1) := by decide +kernel
theorem dX0_comesToAnEnd_22 : decode cX0_comesToAnEnd 22 = .ok (.iconst (-1), 1) := by decide +kernel
theorem dX0_comesToAnEnd_23 : decode cX0_comesToAnEnd 23 = .ok (.if_icmp .ne 5, 3) := by decide +kernel
theorem dX0_comesToAnEnd_26 : decode cX0_comesToAnEnd 26 = .ok (.iconst 1, 1) := by decide +kernel
theorem dX0_comesToAnEnd_27 : decode cX0_comesToAnEnd 27 = .ok (.ireturn, 1) := by decide +kernel
theorem dX0_comesToAnEnd_28 : decode cX0_comesToAnEnd 28 = .ok (.iinc 4 1, 3) := by decide +kernel
theorem dX0_comesToAnEnd_31 : decode cX0_comesToAnEnd 31 = .ok (.goto (-26), 3) := by decide +kernel
theorem dX0_comesToAnEnd_34 : decode cX0_comesToAnEnd 34 = .ok (.iconst 0, 1) := by decide +kernel
theorem dX0_comesToAnEnd_35 : decode cX0_comesToAnEnd 35 = .ok (.ireturn, 1) := by decide +kernel
theorem dX0_worstDetour_0 : decode cX0_worstDetour 0 = .ok (.aload_n 1, 1) := by decide +kernel
theorem dX0_worstDetour_1 : decode cX0_worstDetour 1 = .ok (.getfield 73, 3) := by decide +kernel
theorem dX0_worstDetour_4 : decode cX0_worstDetour 4 = .ok (.iload_n 2, 1) := by decide +kernel
theorem dX0_worstDetour_5 : decode cX0_worstDetour 5 = .ok (.aaload, 1) := by decide +kernel
theorem dX0_worstDetour_6 : decode cX0_worstDetour 6 = .ok (.iload_n 3, 1) := by decide +kernel
theorem dX0_worstDetour_7 : decode cX0_worstDetour 7 = .ok (.iaload, 1) := by decide +kernel
theorem dX0_worstDetour_8 : decode cX0_worstDetour 8 = .ok (.istore 4, 2) := by decide +kernel
theorem dX0_worstDetour_10 : decode cX0_worstDetour 10 = .ok (.iload 4, 2) := by decide +kernel
theorem dX0_worstDetour_12 : decode cX0_worstDetour 12 = .ok (.ldc 77, 2) := by decide +kernel
theorem dX0_worstDetour_14 : decode cX0_worstDetour 14 = .ok (.if_icmp .lt 6, 3) := by decide +kernel
theorem dX0_worstDetour_17 : decode cX0_worstDetour 17 = .ok (.ldc 77, 2) := by decide +kernel
theorem dX0_worstDetour_19 : decode cX0_worstDetour 19 = .ok (.ireturn, 1) := by decide +kernel
theorem dX0_worstDetour_20 : decode cX0_worstDetour 20 = .ok (.iconst 0, 1) := by decide +kernel
theorem dX0_worstDetour_21 : decode cX0_worstDetour 21 = .ok (.istore 5, 2) := by decide +kernel
theorem dX0_worstDetour_23 : decode cX0_worstDetour 23 = .ok (.iload_n 2, 1) := by decide +kernel
theorem dX0_worstDetour_24 : decode cX0_worstDetour 24 = .ok (.istore 6, 2) := by decide +kernel
theorem dX0_worstDetour_26 : decode cX0_worstDetour 26 = .ok (.iconst 0, 1) := by decide +kernel
theorem dX0_worstDetour_27 : decode cX0_worstDetour 27 = .ok (.istore 7, 2) := by decide +kernel
theorem dX0_worstDetour_29 : decode cX0_worstDetour 29 = .ok (.iload 7, 2) := by decide +kernel
theorem dX0_worstDetour_31 : decode cX0_worstDetour 31 = .ok (.aload_n 1, 1) := by decide +kernel
theorem dX0_worstDetour_32 : decode cX0_worstDetour 32 = .ok (.getfield 28, 3) := by decide +kernel
theorem dX0_worstDetour_35 : decode cX0_worstDetour 35 = .ok (.if_icmp .ge 67, 3) := by decide +kernel
theorem dX0_worstDetour_38 : decode cX0_worstDetour 38 = .ok (.iload 6, 2) := by decide +kernel
theorem dX0_worstDetour_40 : decode cX0_worstDetour 40 = .ok (.iload_n 3, 1) := by decide +kernel
theorem dX0_worstDetour_41 : decode cX0_worstDetour 41 = .ok (.if_icmp .eq 61, 3) := by decide +kernel
theorem dX0_worstDetour_44 : decode cX0_worstDetour 44 = .ok (.aload_n 1, 1) := by decide +kernel
theorem dX0_worstDetour_45 : decode cX0_worstDetour 45 = .ok (.iload 6, 2) := by decide +kernel
theorem dX0_worstDetour_47 : decode cX0_worstDetour 47 = .ok (.iload_n 3, 1) := by decide +kernel
theorem dX0_worstDetour_48 : decode cX0_worstDetour 48 = .ok (.invokevirtual 36, 3) := by decide +kernel
theorem dX0_worstDetour_51 : decode cX0_worstDetour 51 = .ok (.istore 8, 2) := by decide +kernel
theorem dX0_worstDetour_53 : decode cX0_worstDetour 53 = .ok (.aload_n 0, 1) := by decide +kernel
theorem dX0_worstDetour_54 : decode cX0_worstDetour 54 = .ok (.aload_n 1, 1) := by decide +kernel
theorem dX0_worstDetour_55 : decode cX0_worstDetour 55 = .ok (.aload_n 1, 1) := by decide +kernel
theorem dX0_worstDetour_56 : decode cX0_worstDetour 56 = .ok (.iload 6, 2) := by decide +kernel
theorem dX0_worstDetour_58 : decode cX0_worstDetour 58 = .ok (.iload 8, 2) := by decide +kernel
theorem dX0_worstDetour_60 : decode cX0_worstDetour 60 = .ok (.invokevirtual 40, 3) := by decide +kernel
theorem dX0_worstDetour_63 : decode cX0_worstDetour 63 = .ok (.iload_n 2, 1) := by decide +kernel
theorem dX0_worstDetour_64 : decode cX0_worstDetour 64 = .ok (.iload_n 3, 1) := by decide +kernel
theorem dX0_worstDetour_65 : decode cX0_worstDetour 65 = .ok (.invokevirtual 78, 3) := by decide +kernel
theorem dX0_worstDetour_68 : decode cX0_worstDetour 68 = .ok (.istore 9, 2) := by decide +kernel
theorem dX0_worstDetour_70 : decode cX0_worstDetour 70 = .ok (.iload 9, 2) := by decide +kernel
theorem dX0_worstDetour_72 : decode cX0_worstDetour 72 = .ok (.ldc 77, 2) := by decide +kernel
theorem dX0_worstDetour_74 : decode cX0_worstDetour 74 = .ok (.if_icmp .lt 6, 3) := by decide +kernel
theorem dX0_worstDetour_77 : decode cX0_worstDetour 77 = .ok (.ldc 77, 2) := by decide +kernel
theorem dX0_worstDetour_79 : decode cX0_worstDetour 79 = .ok (.ireturn, 1) := by decide +kernel
theorem dX0_worstDetour_80 : decode cX0_worstDetour 80 = .ok (.iload 5, 2) := by decide +kernel
theorem dX0_worstDetour_82 : decode cX0_worstDetour 82 = .ok (.iload 9, 2) := by decide +kernel
theorem dX0_worstDetour_84 : decode cX0_worstDetour 84 = .ok (.iload 4, 2) := by decide +kernel
theorem dX0_worstDetour_86 : decode cX0_worstDetour 86 = .ok (.isub, 1) := by decide +kernel
theorem dX0_worstDetour_87 : decode cX0_worstDetour 87 = .ok (.invokestatic 57, 3) := by decide +kernel
theorem dX0_worstDetour_90 : decode cX0_worstDetour 90 = .ok (.istore 5, 2) := by decide +kernel
theorem dX0_worstDetour_92 : decode cX0_worstDetour 92 = .ok (.iload 8, 2) := by decide +kernel
theorem dX0_worstDetour_94 : decode cX0_worstDetour 94 = .ok (.istore 6, 2) := by decide +kernel
theorem dX0_worstDetour_96 : decode cX0_worstDetour 96 = .ok (.iinc 7 1, 3) := by decide +kernel
theorem dX0_worstDetour_99 : decode cX0_worstDetour 99 = .ok (.goto (-70), 3) := by decide +kernel
theorem dX0_worstDetour_102 : decode cX0_worstDetour 102 = .ok (.iload 5, 2) := by decide +kernel
theorem dX0_worstDetour_104 : decode cX0_worstDetour 104 = .ok (.ireturn, 1) := by decide +kernel
theorem dX1_init_0 : decode cX1_init 0 = .ok (.aload_n 0, 1) := by decide +kernel
theorem dX1_init_1 : decode cX1_init 1 = .ok (.invokespecial 3, 3) := by decide +kernel
theorem dX1_init_4 : decode cX1_init 4 = .ok (.aload_n 0, 1) := by decide +kernel
theorem dX1_init_5 : decode cX1_init 5 = .ok (.bipush 24, 2) := by decide +kernel
theorem dX1_init_7 : decode cX1_init 7 = .ok (.newarray .int, 2) := by decide +kernel
theorem dX1_init_9 : decode cX1_init 9 = .ok (.putfield 9, 3) := by decide +kernel
theorem dX1_init_12 : decode cX1_init 12 = .ok (.aload_n 0, 1) := by decide +kernel
theorem dX1_init_13 : decode cX1_init 13 = .ok (.bipush 12, 2) := by decide +kernel
theorem dX1_init_15 : decode cX1_init 15 = .ok (.newarray .int, 2) := by decide +kernel
theorem dX1_init_17 : decode cX1_init 17 = .ok (.putfield 15, 3) := by decide +kernel
theorem dX1_init_20 : decode cX1_init 20 = .ok (.aload_n 0, 1) := by decide +kernel
theorem dX1_init_21 : decode cX1_init 21 = .ok (.bipush 12, 2) := by decide +kernel
theorem dX1_init_23 : decode cX1_init 23 = .ok (.newarray .int, 2) := by decide +kernel
theorem dX1_init_25 : decode cX1_init 25 = .ok (.putfield 18, 3) := by decide +kernel
theorem dX1_init_28 : decode cX1_init 28 = .ok (.return_, 1) := by decide +kernel
theorem dX1_leastCut_0 : decode cX1_leastCut 0 = .ok (.aload_n 0, 1) := by decide +kernel
theorem dX1_leastCut_1 : decode cX1_leastCut 1 = .ok (.getfield 9, 3) := by decide +kernel
theorem dX1_leastCut_4 : decode cX1_leastCut 4 = .ok (.iconst 0, 1) := by decide +kernel
theorem dX1_leastCut_5 : decode cX1_leastCut 5 = .ok (.invokestatic 21, 3) := by decide +kernel
theorem dX1_leastCut_8 : decode cX1_leastCut 8 = .ok (.iconst 0, 1) := by decide +kernel
theorem dX1_leastCut_9 : decode cX1_leastCut 9 = .ok (.istore 4, 2) := by decide +kernel
theorem dX1_leastCut_11 : decode cX1_leastCut 11 = .ok (.iload 4, 2) := by decide +kernel
theorem dX1_leastCut_13 : decode cX1_leastCut 13 = .ok (.bipush 24, 2) := by decide +kernel
theorem dX1_leastCut_15 : decode cX1_leastCut 15 = .ok (.if_icmp .ge 26, 3) := by decide +kernel
theorem dX1_leastCut_18 : decode cX1_leastCut 18 = .ok (.aload_n 0, 1) := by decide +kernel
theorem dX1_leastCut_19 : decode cX1_leastCut 19 = .ok (.aload_n 1, 1) := by decide +kernel
theorem dX1_leastCut_20 : decode cX1_leastCut 20 = .ok (.iload_n 2, 1) := by decide +kernel
theorem dX1_leastCut_21 : decode cX1_leastCut 21 = .ok (.iload_n 3, 1) := by decide +kernel
theorem dX1_leastCut_22 : decode cX1_leastCut 22 = .ok (.invokevirtual 27, 3) := by decide +kernel
theorem dX1_leastCut_25 : decode cX1_leastCut 25 = .ok (.ifCond .eq 16, 3) := by decide +kernel
theorem dX1_leastCut_28 : decode cX1_leastCut 28 = .ok (.aload_n 0, 1) := by decide +kernel
theorem dX1_leastCut_29 : decode cX1_leastCut 29 = .ok (.aload_n 1, 1) := by decide +kernel
theorem dX1_leastCut_30 : decode cX1_leastCut 30 = .ok (.iload_n 2, 1) := by decide +kernel
theorem dX1_leastCut_31 : decode cX1_leastCut 31 = .ok (.iload_n 3, 1) := by decide +kernel
theorem dX1_leastCut_32 : decode cX1_leastCut 32 = .ok (.invokevirtual 31, 3) := by decide +kernel
theorem dX1_leastCut_35 : decode cX1_leastCut 35 = .ok (.iinc 4 1, 3) := by decide +kernel
theorem dX1_leastCut_38 : decode cX1_leastCut 38 = .ok (.goto (-27), 3) := by decide +kernel
theorem dX1_leastCut_41 : decode cX1_leastCut 41 = .ok (.iload 4, 2) := by decide +kernel
theorem dX1_leastCut_43 : decode cX1_leastCut 43 = .ok (.ireturn, 1) := by decide +kernel
theorem dX1_findWay_0 : decode cX1_findWay 0 = .ok (.aload_n 0, 1) := by decide +kernel
theorem dX1_findWay_1 : decode cX1_findWay 1 = .ok (.getfield 15, 3) := by decide +kernel
theorem dX1_findWay_4 : decode cX1_findWay 4 = .ok (.iconst (-1), 1) := by decide +kernel
theorem dX1_findWay_5 : decode cX1_findWay 5 = .ok (.invokestatic 21, 3) := by decide +kernel
theorem dX1_findWay_8 : decode cX1_findWay 8 = .ok (.aload_n 0, 1) := by decide +kernel
theorem dX1_findWay_9 : decode cX1_findWay 9 = .ok (.getfield 15, 3) := by decide +kernel
theorem dX1_findWay_12 : decode cX1_findWay 12 = .ok (.iload_n 2, 1) := by decide +kernel
theorem dX1_findWay_13 : decode cX1_findWay 13 = .ok (.iload_n 2, 1) := by decide +kernel
theorem dX1_findWay_14 : decode cX1_findWay 14 = .ok (.iastore, 1) := by decide +kernel
theorem dX1_findWay_15 : decode cX1_findWay 15 = .ok (.aload_n 0, 1) := by decide +kernel
theorem dX1_findWay_16 : decode cX1_findWay 16 = .ok (.getfield 18, 3) := by decide +kernel
theorem dX1_findWay_19 : decode cX1_findWay 19 = .ok (.iconst 0, 1) := by decide +kernel
theorem dX1_findWay_20 : decode cX1_findWay 20 = .ok (.iload_n 2, 1) := by decide +kernel
theorem dX1_findWay_21 : decode cX1_findWay 21 = .ok (.iastore, 1) := by decide +kernel
theorem dX1_findWay_22 : decode cX1_findWay 22 = .ok (.iconst 1, 1) := by decide +kernel
theorem dX1_findWay_23 : decode cX1_findWay 23 = .ok (.istore 4, 2) := by decide +kernel
theorem dX1_findWay_25 : decode cX1_findWay 25 = .ok (.iconst 0, 1) := by decide +kernel
theorem dX1_findWay_26 : decode cX1_findWay 26 = .ok (.istore 5, 2) := by decide +kernel
theorem dX1_findWay_28 : decode cX1_findWay 28 = .ok (.iload 5, 2) := by decide +kernel
theorem dX1_findWay_30 : decode cX1_findWay 30 = .ok (.aload_n 1, 1) := by decide +kernel
theorem dX1_findWay_31 : decode cX1_findWay 31 = .ok (.getfield 35, 3) := by decide +kernel
theorem dX1_findWay_34 : decode cX1_findWay 34 = .ok (.if_icmp .ge 42, 3) := by decide +kernel
theorem dX1_findWay_37 : decode cX1_findWay 37 = .ok (.iload 5, 2) := by decide +kernel
theorem dX1_findWay_39 : decode cX1_findWay 39 = .ok (.iload 4, 2) := by decide +kernel
theorem dX1_findWay_41 : decode cX1_findWay 41 = .ok (.if_icmp .ge 35, 3) := by decide +kernel
theorem dX1_findWay_44 : decode cX1_findWay 44 = .ok (.aload_n 0, 1) := by decide +kernel
theorem dX1_findWay_45 : decode cX1_findWay 45 = .ok (.getfield 15, 3) := by decide +kernel
theorem dX1_findWay_48 : decode cX1_findWay 48 = .ok (.iload_n 3, 1) := by decide +kernel
theorem dX1_findWay_49 : decode cX1_findWay 49 = .ok (.iaload, 1) := by decide +kernel
theorem dX1_findWay_50 : decode cX1_findWay 50 = .ok (.iconst (-1), 1) := by decide +kernel
theorem dX1_findWay_51 : decode cX1_findWay 51 = .ok (.if_icmp .ne 25, 3) := by decide +kernel
theorem dX1_findWay_54 : decode cX1_findWay 54 = .ok (.aload_n 0, 1) := by decide +kernel
theorem dX1_findWay_55 : decode cX1_findWay 55 = .ok (.aload_n 1, 1) := by decide +kernel
theorem dX1_findWay_56 : decode cX1_findWay 56 = .ok (.aload_n 0, 1) := by decide +kernel
theorem dX1_findWay_57 : decode cX1_findWay 57 = .ok (.getfield 18, 3) := by decide +kernel
theorem dX1_findWay_60 : decode cX1_findWay 60 = .ok (.iload 5, 2) := by decide +kernel
theorem dX1_findWay_62 : decode cX1_findWay 62 = .ok (.iaload, 1) := by decide +kernel
theorem dX1_findWay_63 : decode cX1_findWay 63 = .ok (.iload 4, 2) := by decide +kernel
theorem dX1_findWay_65 : decode cX1_findWay 65 = .ok (.invokevirtual 41, 3) := by decide +kernel
theorem dX1_findWay_68 : decode cX1_findWay 68 = .ok (.istore 4, 2) := by decide +kernel
theorem dX1_findWay_70 : decode cX1_findWay 70 = .ok (.iinc 5 1, 3) := by decide +kernel
theorem dX1_findWay_73 : decode cX1_findWay 73 = .ok (.goto (-45), 3) := by decide +kernel
theorem dX1_findWay_76 : decode cX1_findWay 76 = .ok (.aload_n 0, 1) := by decide +kernel
theorem dX1_findWay_77 : decode cX1_findWay 77 = .ok (.getfield 15, 3) := by decide +kernel
theorem dX1_findWay_80 : decode cX1_findWay 80 = .ok (.iload_n 3, 1) := by decide +kernel
theorem dX1_findWay_81 : decode cX1_findWay 81 = .ok (.iaload, 1) := by decide +kernel
theorem dX1_findWay_82 : decode cX1_findWay 82 = .ok (.iconst (-1), 1) := by decide +kernel
theorem dX1_findWay_83 : decode cX1_findWay 83 = .ok (.if_icmp .eq 7, 3) := by decide +kernel
theorem dX1_findWay_86 : decode cX1_findWay 86 = .ok (.iconst 1, 1) := by decide +kernel
theorem dX1_findWay_87 : decode cX1_findWay 87 = .ok (.goto 4, 3) := by decide +kernel
theorem dX1_findWay_90 : decode cX1_findWay 90 = .ok (.iconst 0, 1) := by decide +kernel
theorem dX1_findWay_91 : decode cX1_findWay 91 = .ok (.ireturn, 1) := by decide +kernel
theorem dX1_spread_0 : decode cX1_spread 0 = .ok (.iload_n 3, 1) := by decide +kernel
theorem dX1_spread_1 : decode cX1_spread 1 = .ok (.istore 4, 2) := by decide +kernel
theorem dX1_spread_3 : decode cX1_spread 3 = .ok (.iconst 0, 1) := by decide +kernel
theorem dX1_spread_4 : decode cX1_spread 4 = .ok (.istore 5, 2) := by decide +kernel
theorem dX1_spread_6 : decode cX1_spread 6 = .ok (.iload 5, 2) := by decide +kernel
theorem dX1_spread_8 : decode cX1_spread 8 = .ok (.aload_n 1, 1) := by decide +kernel
theorem dX1_spread_9 : decode cX1_spread 9 = .ok (.getfield 35, 3) := by decide +kernel
theorem dX1_spread_12 : decode cX1_spread 12 = .ok (.if_icmp .ge 58, 3) := by decide +kernel
theorem dX1_spread_15 : decode cX1_spread 15 = .ok (.iload 4, 2) := by decide +kernel
theorem dX1_spread_17 : decode cX1_spread 17 = .ok (.bipush 12, 2) := by decide +kernel
theorem dX1_spread_19 : decode cX1_spread 19 = .ok (.if_icmp .ge 45, 3) := by decide +kernel
theorem dX1_spread_22 : decode cX1_spread 22 = .ok (.aload_n 0, 1) := by decide +kernel
theorem dX1_spread_23 : decode cX1_spread 23 = .ok (.getfield 15, 3) := by decide +kernel
theorem dX1_spread_26 : decode cX1_spread 26 = .ok (.iload 5, 2) := by decide +kernel
theorem dX1_spread_28 : decode cX1_spread 28 = .ok (.iaload, 1) := by decide +kernel
theorem dX1_spread_29 : decode cX1_spread 29 = .ok (.iconst (-1), 1) := by decide +kernel
theorem dX1_spread_30 : decode cX1_spread 30 = .ok (.if_icmp .ne 34, 3) := by decide +kernel
theorem dX1_spread_33 : decode cX1_spread 33 = .ok (.aload_n 0, 1) := by decide +kernel
theorem dX1_spread_34 : decode cX1_spread 34 = .ok (.aload_n 1, 1) := by decide +kernel
theorem dX1_spread_35 : decode cX1_spread 35 = .ok (.iload_n 2, 1) := by decide +kernel
theorem dX1_spread_36 : decode cX1_spread 36 = .ok (.iload 5, 2) := by decide +kernel
theorem dX1_spread_38 : decode cX1_spread 38 = .ok (.invokevirtual 45, 3) := by decide +kernel
theorem dX1_spread_41 : decode cX1_spread 41 = .ok (.ifCond .eq 23, 3) := by decide +kernel
theorem dX1_spread_44 : decode cX1_spread 44 = .ok (.aload_n 0, 1) := by decide +kernel
theorem dX1_spread_45 : decode cX1_spread 45 = .ok (.getfield 15, 3) := by decide +kernel
theorem dX1_spread_48 : decode cX1_spread 48 = .ok (.iload 5, 2) := by decide +kernel
theorem dX1_spread_50 : decode cX1_spread 50 = .ok (.iload_n 2, 1) := by decide +kernel
theorem dX1_spread_51 : decode cX1_spread 51 = .ok (.iastore, 1) := by decide +kernel
theorem dX1_spread_52 : decode cX1_spread 52 = .ok (.aload_n 0, 1) := by decide +kernel
theorem dX1_spread_53 : decode cX1_spread 53 = .ok (.getfield 18, 3) := by decide +kernel
theorem dX1_spread_56 : decode cX1_spread 56 = .ok (.iload 4, 2) := by decide +kernel
theorem dX1_spread_58 : decode cX1_spread 58 = .ok (.iload 5, 2) := by decide +kernel
theorem dX1_spread_60 : decode cX1_spread 60 = .ok (.iastore, 1) := by decide +kernel
theorem dX1_spread_61 : decode cX1_spread 61 = .ok (.iinc 4 1, 3) := by decide +kernel
theorem dX1_spread_64 : decode cX1_spread 64 = .ok (.iinc 5 1, 3) := by decide +kernel
theorem dX1_spread_67 : decode cX1_spread 67 = .ok (.goto (-61), 3) := by decide +kernel
theorem dX1_spread_70 : decode cX1_spread 70 = .ok (.iload 4, 2) := by decide +kernel
theorem dX1_spread_72 : decode cX1_spread 72 = .ok (.ireturn, 1) := by decide +kernel
theorem dX1_isFree_0 : decode cX1_isFree 0 = .ok (.aload_n 1, 1) := by decide +kernel
theorem dX1_isFree_1 : decode cX1_isFree 1 = .ok (.iload_n 2, 1) := by decide +kernel
theorem dX1_isFree_2 : decode cX1_isFree 2 = .ok (.iload_n 3, 1) := by decide +kernel
theorem dX1_isFree_3 : decode cX1_isFree 3 = .ok (.invokevirtual 48, 3) := by decide +kernel
theorem dX1_isFree_6 : decode cX1_isFree 6 = .ok (.istore 4, 2) := by decide +kernel
theorem dX1_isFree_8 : decode cX1_isFree 8 = .ok (.iload 4, 2) := by decide +kernel
theorem dX1_isFree_10 : decode cX1_isFree 10 = .ok (.iconst (-1), 1) := by decide +kernel
theorem dX1_isFree_11 : decode cX1_isFree 11 = .ok (.if_icmp .eq 24, 3) := by decide +kernel
theorem dX1_isFree_14 : decode cX1_isFree 14 = .ok (.aload_n 0, 1) := by decide +kernel
theorem dX1_isFree_15 : decode cX1_isFree 15 = .ok (.getfield 9, 3) := by decide +kernel
theorem dX1_isFree_18 : decode cX1_isFree 18 = .ok (.iload 4, 2) := by decide +kernel
theorem dX1_isFree_20 : decode cX1_isFree 20 = .ok (.iaload, 1) := by decide +kernel
theorem dX1_isFree_21 : decode cX1_isFree 21 = .ok (.aload_n 1, 1) := by decide +kernel
theorem dX1_isFree_22 : decode cX1_isFree 22 = .ok (.iload 4, 2) := by decide +kernel
theorem dX1_isFree_24 : decode cX1_isFree 24 = .ok (.iload_n 2, 1) := by decide +kernel
theorem dX1_isFree_25 : decode cX1_isFree 25 = .ok (.invokestatic 52, 3) := by decide +kernel
theorem dX1_isFree_28 : decode cX1_isFree 28 = .ok (.if_icmp .eq 7, 3) := by decide +kernel
theorem dX1_isFree_31 : decode cX1_isFree 31 = .ok (.iconst 1, 1) := by decide +kernel
theorem dX1_isFree_32 : decode cX1_isFree 32 = .ok (.goto 4, 3) := by decide +kernel
theorem dX1_isFree_35 : decode cX1_isFree 35 = .ok (.iconst 0, 1) := by decide +kernel
theorem dX1_isFree_36 : decode cX1_isFree 36 = .ok (.ireturn, 1) := by decide +kernel
theorem dX1_direction_0 : decode cX1_direction 0 = .ok (.aload_n 0, 1) := by decide +kernel
theorem dX1_direction_1 : decode cX1_direction 1 = .ok (.getfield 55, 3) := by decide +kernel
theorem dX1_direction_4 : decode cX1_direction 4 = .ok (.iload_n 1, 1) := by decide +kernel
theorem dX1_direction_5 : decode cX1_direction 5 = .ok (.iaload, 1) := by decide +kernel
theorem dX1_direction_6 : decode cX1_direction 6 = .ok (.iload_n 2, 1) := by decide +kernel
theorem dX1_direction_7 : decode cX1_direction 7 = .ok (.if_icmp .ne 7, 3) := by decide +kernel
theorem dX1_direction_10 : decode cX1_direction 10 = .ok (.iconst 1, 1) := by decide +kernel
theorem dX1_direction_11 : decode cX1_direction 11 = .ok (.goto 4, 3) := by decide +kernel
theorem dX1_direction_14 : decode cX1_direction 14 = .ok (.iconst (-1), 1) := by decide +kernel
theorem dX1_direction_15 : decode cX1_direction 15 = .ok (.ireturn, 1) := by decide +kernel
theorem dX1_useWay_0 : decode cX1_useWay 0 = .ok (.iload_n 3, 1) := by decide +kernel
theorem dX1_useWay_1 : decode cX1_useWay 1 = .ok (.istore 4, 2) := by decide +kernel
theorem dX1_useWay_3 : decode cX1_useWay 3 = .ok (.iconst 0, 1) := by decide +kernel
theorem dX1_useWay_4 : decode cX1_useWay 4 = .ok (.istore 5, 2) := by decide +kernel
theorem dX1_useWay_6 : decode cX1_useWay 6 = .ok (.iload 5, 2) := by decide +kernel
theorem dX1_useWay_8 : decode cX1_useWay 8 = .ok (.aload_n 1, 1) := by decide +kernel
theorem dX1_useWay_9 : decode cX1_useWay 9 = .ok (.getfield 35, 3) := by decide +kernel
theorem dX1_useWay_12 : decode cX1_useWay 12 = .ok (.if_icmp .ge 63, 3) := by decide +kernel
theorem dX1_useWay_15 : decode cX1_useWay 15 = .ok (.iload 4, 2) := by decide +kernel
theorem dX1_useWay_17 : decode cX1_useWay 17 = .ok (.iload_n 2, 1) := by decide +kernel
theorem dX1_useWay_18 : decode cX1_useWay 18 = .ok (.if_icmp .eq 57, 3) := by decide +kernel
theorem dX1_useWay_21 : decode cX1_useWay 21 = .ok (.aload_n 0, 1) := by decide +kernel
theorem dX1_useWay_22 : decode cX1_useWay 22 = .ok (.getfield 15, 3) := by decide +kernel
theorem dX1_useWay_25 : decode cX1_useWay 25 = .ok (.iload 4, 2) := by decide +kernel
theorem dX1_useWay_27 : decode cX1_useWay 27 = .ok (.iaload, 1) := by decide +kernel
theorem dX1_useWay_28 : decode cX1_useWay 28 = .ok (.istore 6, 2) := by decide +kernel
theorem dX1_useWay_30 : decode cX1_useWay 30 = .ok (.aload_n 1, 1) := by decide +kernel
theorem dX1_useWay_31 : decode cX1_useWay 31 = .ok (.iload 6, 2) := by decide +kernel
theorem dX1_useWay_33 : decode cX1_useWay 33 = .ok (.iload 4, 2) := by decide +kernel
theorem dX1_useWay_35 : decode cX1_useWay 35 = .ok (.invokevirtual 48, 3) := by decide +kernel
theorem dX1_useWay_38 : decode cX1_useWay 38 = .ok (.istore 7, 2) := by decide +kernel
theorem dX1_useWay_40 : decode cX1_useWay 40 = .ok (.iload 7, 2) := by decide +kernel
theorem dX1_useWay_42 : decode cX1_useWay 42 = .ok (.iconst (-1), 1) := by decide +kernel
theorem dX1_useWay_43 : decode cX1_useWay 43 = .ok (.if_icmp .ne 4, 3) := by decide +kernel
theorem dX1_useWay_46 : decode cX1_useWay 46 = .ok (.return_, 1) := by decide +kernel
theorem dX1_useWay_47 : decode cX1_useWay 47 = .ok (.aload_n 0, 1) := by decide +kernel
theorem dX1_useWay_48 : decode cX1_useWay 48 = .ok (.getfield 9, 3) := by decide +kernel
theorem dX1_useWay_51 : decode cX1_useWay 51 = .ok (.iload 7, 2) := by decide +kernel
theorem dX1_useWay_53 : decode cX1_useWay 53 = .ok (.dup2, 1) := by decide +kernel
theorem dX1_useWay_54 : decode cX1_useWay 54 = .ok (.iaload, 1) := by decide +kernel
theorem dX1_useWay_55 : decode cX1_useWay 55 = .ok (.aload_n 1, 1) := by decide +kernel
theorem dX1_useWay_56 : decode cX1_useWay 56 = .ok (.iload 7, 2) := by decide +kernel
theorem dX1_useWay_58 : decode cX1_useWay 58 = .ok (.iload 6, 2) := by decide +kernel
theorem dX1_useWay_60 : decode cX1_useWay 60 = .ok (.invokestatic 52, 3) := by decide +kernel
theorem dX1_useWay_63 : decode cX1_useWay 63 = .ok (.iadd, 1) := by decide +kernel
theorem dX1_useWay_64 : decode cX1_useWay 64 = .ok (.iastore, 1) := by decide +kernel
theorem dX1_useWay_65 : decode cX1_useWay 65 = .ok (.iload 6, 2) := by decide +kernel
theorem dX1_useWay_67 : decode cX1_useWay 67 = .ok (.istore 4, 2) := by decide +kernel
theorem dX1_useWay_69 : decode cX1_useWay 69 = .ok (.iinc 5 1, 3) := by decide +kernel
theorem dX1_useWay_72 : decode cX1_useWay 72 = .ok (.goto (-66), 3) := by decide +kernel
theorem dX1_useWay_75 : decode cX1_useWay 75 = .ok (.return_, 1) := by decide +kernel
theorem dX2_init_0 : decode cX2_init 0 = .ok (.aload_n 0, 1) := by decide +kernel
theorem dX2_init_1 : decode cX2_init 1 = .ok (.invokespecial 3, 3) := by decide +kernel
theorem dX2_init_4 : decode cX2_init 4 = .ok (.aload_n 0, 1) := by decide +kernel
theorem dX2_init_5 : decode cX2_init 5 = .ok (.bipush 24, 2) := by decide +kernel
theorem dX2_init_7 : decode cX2_init 7 = .ok (.newarray .int, 2) := by decide +kernel
theorem dX2_init_9 : decode cX2_init 9 = .ok (.putfield 9, 3) := by decide +kernel
theorem dX2_init_12 : decode cX2_init 12 = .ok (.aload_n 0, 1) := by decide +kernel
theorem dX2_init_13 : decode cX2_init 13 = .ok (.bipush 24, 2) := by decide +kernel
theorem dX2_init_15 : decode cX2_init 15 = .ok (.newarray .int, 2) := by decide +kernel
theorem dX2_init_17 : decode cX2_init 17 = .ok (.putfield 15, 3) := by decide +kernel
theorem dX2_init_20 : decode cX2_init 20 = .ok (.aload_n 0, 1) := by decide +kernel
theorem dX2_init_21 : decode cX2_init 21 = .ok (.bipush 24, 2) := by decide +kernel
theorem dX2_init_23 : decode cX2_init 23 = .ok (.newarray .int, 2) := by decide +kernel
theorem dX2_init_25 : decode cX2_init 25 = .ok (.putfield 18, 3) := by decide +kernel
theorem dX2_init_28 : decode cX2_init 28 = .ok (.aload_n 0, 1) := by decide +kernel
theorem dX2_init_29 : decode cX2_init 29 = .ok (.bipush 24, 2) := by decide +kernel
theorem dX2_init_31 : decode cX2_init 31 = .ok (.newarray .int, 2) := by decide +kernel
theorem dX2_init_33 : decode cX2_init 33 = .ok (.putfield 21, 3) := by decide +kernel
theorem dX2_init_36 : decode cX2_init 36 = .ok (.aload_n 0, 1) := by decide +kernel
theorem dX2_init_37 : decode cX2_init 37 = .ok (.bipush 12, 2) := by decide +kernel
theorem dX2_init_39 : decode cX2_init 39 = .ok (.bipush 12, 2) := by decide +kernel
theorem dX2_init_41 : decode cX2_init 41 = .ok (.multianewarray 24 2, 4) := by decide +kernel
theorem dX2_init_45 : decode cX2_init 45 = .ok (.putfield 26, 3) := by decide +kernel
theorem dX2_init_48 : decode cX2_init 48 = .ok (.aload_n 0, 1) := by decide +kernel
theorem dX2_init_49 : decode cX2_init 49 = .ok (.bipush 12, 2) := by decide +kernel
theorem dX2_init_51 : decode cX2_init 51 = .ok (.bipush 12, 2) := by decide +kernel
theorem dX2_init_53 : decode cX2_init 53 = .ok (.multianewarray 24 2, 4) := by decide +kernel
theorem dX2_init_57 : decode cX2_init 57 = .ok (.putfield 29, 3) := by decide +kernel
theorem dX2_init_60 : decode cX2_init 60 = .ok (.aload_n 0, 1) := by decide +kernel
theorem dX2_init_61 : decode cX2_init 61 = .ok (.bipush 12, 2) := by decide +kernel
theorem dX2_init_63 : decode cX2_init 63 = .ok (.bipush 12, 2) := by decide +kernel
theorem dX2_init_65 : decode cX2_init 65 = .ok (.multianewarray 24 2, 4) := by decide +kernel
theorem dX2_init_69 : decode cX2_init 69 = .ok (.putfield 32, 3) := by decide +kernel
theorem dX2_init_72 : decode cX2_init 72 = .ok (.aload_n 0, 1) := by decide +kernel
theorem dX2_init_73 : decode cX2_init 73 = .ok (.iconst 2, 1) := by decide +kernel
theorem dX2_init_74 : decode cX2_init 74 = .ok (.invokevirtual 35, 3) := by decide +kernel
theorem dX2_init_77 : decode cX2_init 77 = .ok (.return_, 1) := by decide +kernel
theorem dX2_clear_0 : decode cX2_clear 0 = .ok (.aload_n 0, 1) := by decide +kernel
theorem dX2_clear_1 : decode cX2_clear 1 = .ok (.iload_n 1, 1) := by decide +kernel
theorem dX2_clear_2 : decode cX2_clear 2 = .ok (.putfield 39, 3) := by decide +kernel
theorem dX2_clear_5 : decode cX2_clear 5 = .ok (.aload_n 0, 1) := by decide +kernel
theorem dX2_clear_6 : decode cX2_clear 6 = .ok (.iconst 0, 1) := by decide +kernel
theorem dX2_clear_7 : decode cX2_clear 7 = .ok (.putfield 43, 3) := by decide +kernel
theorem dX2_clear_10 : decode cX2_clear 10 = .ok (.iconst 0, 1) := by decide +kernel
theorem dX2_clear_11 : decode cX2_clear 11 = .ok (.istore_n 2, 1) := by decide +kernel
theorem dX2_clear_12 : decode cX2_clear 12 = .ok (.iload_n 2, 1) := by decide +kernel
theorem dX2_clear_13 : decode cX2_clear 13 = .ok (.bipush 12, 2) := by decide +kernel
theorem dX2_clear_15 : decode cX2_clear 15 = .ok (.if_icmp .ge 19, 3) := by decide +kernel
theorem dX2_clear_18 : decode cX2_clear 18 = .ok (.aload_n 0, 1) := by decide +kernel
theorem dX2_clear_19 : decode cX2_clear 19 = .ok (.getfield 32, 3) := by decide +kernel
theorem dX2_clear_22 : decode cX2_clear 22 = .ok (.iload_n 2, 1) := by decide +kernel
theorem dX2_clear_23 : decode cX2_clear 23 = .ok (.aaload, 1) := by decide +kernel
theorem dX2_clear_24 : decode cX2_clear 24 = .ok (.iconst (-1), 1) := by decide +kernel
theorem dX2_clear_25 : decode cX2_clear 25 = .ok (.invokestatic 46, 3) := by decide +kernel
theorem dX2_clear_28 : decode cX2_clear 28 = .ok (.iinc 2 1, 3) := by decide +kernel
theorem dX2_clear_31 : decode cX2_clear 31 = .ok (.goto (-19), 3) := by decide +kernel
theorem dX2_clear_34 : decode cX2_clear 34 = .ok (.aload_n 0, 1) := by decide +kernel
theorem dX2_clear_35 : decode cX2_clear 35 = .ok (.iconst 1, 1) := by decide +kernel
theorem dX2_clear_36 : decode cX2_clear 36 = .ok (.putfield 52, 3) := by decide +kernel
theorem dX2_clear_39 : decode cX2_clear 39 = .ok (.return_, 1) := by decide +kernel
theorem dX2_isNode_0 : decode cX2_isNode 0 = .ok (.iload_n 1, 1) := by decide +kernel
theorem dX2_isNode_1 : decode cX2_isNode 1 = .ok (.ifCond .lt 15, 3) := by decide +kernel
theorem dX2_isNode_4 : decode cX2_isNode 4 = .ok (.iload_n 1, 1) := by decide +kernel
theorem dX2_isNode_5 : decode cX2_isNode 5 = .ok (.aload_n 0, 1) := by decide +kernel
theorem dX2_isNode_6 : decode cX2_isNode 6 = .ok (.getfield 39, 3) := by decide +kernel
theorem dX2_isNode_9 : decode cX2_isNode 9 = .ok (.if_icmp .ge 7, 3) := by decide +kernel
theorem dX2_isNode_12 : decode cX2_isNode 12 = .ok (.iconst 1, 1) := by decide +kernel
theorem dX2_isNode_13 : decode cX2_isNode 13 = .ok (.goto 4, 3) := by decide +kernel
theorem dX2_isNode_16 : decode cX2_isNode 16 = .ok (.iconst 0, 1) := by decide +kernel
theorem dX2_isNode_17 : decode cX2_isNode 17 = .ok (.ireturn, 1) := by decide +kernel
theorem dX2_areTwo_0 : decode cX2_areTwo 0 = .ok (.aload_n 0, 1) := by decide +kernel
theorem dX2_areTwo_1 : decode cX2_areTwo 1 = .ok (.iload_n 1, 1) := by decide +kernel
theorem dX2_areTwo_2 : decode cX2_areTwo 2 = .ok (.invokevirtual 56, 3) := by decide +kernel
theorem dX2_areTwo_5 : decode cX2_areTwo 5 = .ok (.ifCond .eq 20, 3) := by decide +kernel
theorem dX2_areTwo_8 : decode cX2_areTwo 8 = .ok (.aload_n 0, 1) := by decide +kernel
theorem dX2_areTwo_9 : decode cX2_areTwo 9 = .ok (.iload_n 2, 1) := by decide +kernel
theorem dX2_areTwo_10 : decode cX2_areTwo 10 = .ok (.invokevirtual 56, 3) := by decide +kernel
theorem dX2_areTwo_13 : decode cX2_areTwo 13 = .ok (.ifCond .eq 12, 3) := by decide +kernel
theorem dX2_areTwo_16 : decode cX2_areTwo 16 = .ok (.iload_n 1, 1) := by decide +kernel
theorem dX2_areTwo_17 : decode cX2_areTwo 17 = .ok (.iload_n 2, 1) := by decide +kernel
theorem dX2_areTwo_18 : decode cX2_areTwo 18 = .ok (.if_icmp .eq 7, 3) := by decide +kernel
theorem dX2_areTwo_21 : decode cX2_areTwo 21 = .ok (.iconst 1, 1) := by decide +kernel
theorem dX2_areTwo_22 : decode cX2_areTwo 22 = .ok (.goto 4, 3) := by decide +kernel
theorem dX2_areTwo_25 : decode cX2_areTwo 25 = .ok (.iconst 0, 1) := by decide +kernel
theorem dX2_areTwo_26 : decode cX2_areTwo 26 = .ok (.ireturn, 1) := by decide +kernel
theorem dX2_isLink_0 : decode cX2_isLink 0 = .ok (.iload_n 1, 1) := by decide +kernel
theorem dX2_isLink_1 : decode cX2_isLink 1 = .ok (.ifCond .lt 15, 3) := by decide +kernel
theorem dX2_isLink_4 : decode cX2_isLink 4 = .ok (.iload_n 1, 1) := by decide +kernel
theorem dX2_isLink_5 : decode cX2_isLink 5 = .ok (.aload_n 0, 1) := by decide +kernel
theorem dX2_isLink_6 : decode cX2_isLink 6 = .ok (.getfield 43, 3) := by decide +kernel
theorem dX2_isLink_9 : decode cX2_isLink 9 = .ok (.if_icmp .ge 7, 3) := by decide +kernel
theorem dX2_isLink_12 : decode cX2_isLink 12 = .ok (.iconst 1, 1) := by decide +kernel
theorem dX2_isLink_13 : decode cX2_isLink 13 = .ok (.goto 4, 3) := by decide +kernel
theorem dX2_isLink_16 : decode cX2_isLink 16 = .ok (.iconst 0, 1) := by decide +kernel
theorem dX2_isLink_17 : decode cX2_isLink 17 = .ok (.ireturn, 1) := by decide +kernel
theorem dX2_add_0 : decode cX2_add 0 = .ok (.aload_n 0, 1) := by decide +kernel
theorem dX2_add_1 : decode cX2_add 1 = .ok (.getfield 43, 3) := by decide +kernel
theorem dX2_add_4 : decode cX2_add 4 = .ok (.istore 4, 2) := by decide +kernel
theorem dX2_add_6 : decode cX2_add 6 = .ok (.aload_n 0, 1) := by decide +kernel
theorem dX2_add_7 : decode cX2_add 7 = .ok (.getfield 9, 3) := by decide +kernel
theorem dX2_add_10 : decode cX2_add 10 = .ok (.iload 4, 2) := by decide +kernel
theorem dX2_add_12 : decode cX2_add 12 = .ok (.iload_n 1, 1) := by decide +kernel
theorem dX2_add_13 : decode cX2_add 13 = .ok (.iastore, 1) := by decide +kernel
theorem dX2_add_14 : decode cX2_add 14 = .ok (.aload_n 0, 1) := by decide +kernel
theorem dX2_add_15 : decode cX2_add 15 = .ok (.getfield 15, 3) := by decide +kernel
theorem dX2_add_18 : decode cX2_add 18 = .ok (.iload 4, 2) := by decide +kernel
theorem dX2_add_20 : decode cX2_add 20 = .ok (.iload_n 2, 1) := by decide +kernel
theorem dX2_add_21 : decode cX2_add 21 = .ok (.iastore, 1) := by decide +kernel
theorem dX2_add_22 : decode cX2_add 22 = .ok (.aload_n 0, 1) := by decide +kernel
theorem dX2_add_23 : decode cX2_add 23 = .ok (.getfield 18, 3) := by decide +kernel
theorem dX2_add_26 : decode cX2_add 26 = .ok (.iload 4, 2) := by decide +kernel
theorem dX2_add_28 : decode cX2_add 28 = .ok (.iload_n 3, 1) := by decide +kernel
theorem dX2_add_29 : decode cX2_add 29 = .ok (.iastore, 1) := by decide +kernel
theorem dX2_add_30 : decode cX2_add 30 = .ok (.aload_n 0, 1) := by decide +kernel
theorem dX2_add_31 : decode cX2_add 31 = .ok (.getfield 21, 3) := by decide +kernel
theorem dX2_add_34 : decode cX2_add 34 = .ok (.iload 4, 2) := by decide +kernel
theorem dX2_add_36 : decode cX2_add 36 = .ok (.iconst 0, 1) := by decide +kernel
theorem dX2_add_37 : decode cX2_add 37 = .ok (.iastore, 1) := by decide +kernel
theorem dX2_add_38 : decode cX2_add 38 = .ok (.aload_n 0, 1) := by decide +kernel
theorem dX2_add_39 : decode cX2_add 39 = .ok (.getfield 32, 3) := by decide +kernel
theorem dX2_add_42 : decode cX2_add 42 = .ok (.iload_n 1, 1) := by decide +kernel
theorem dX2_add_43 : decode cX2_add 43 = .ok (.aaload, 1) := by decide +kernel
theorem dX2_add_44 : decode cX2_add 44 = .ok (.iload_n 2, 1) := by decide +kernel
theorem dX2_add_45 : decode cX2_add 45 = .ok (.iload 4, 2) := by decide +kernel
theorem dX2_add_47 : decode cX2_add 47 = .ok (.iastore, 1) := by decide +kernel
theorem dX2_add_48 : decode cX2_add 48 = .ok (.aload_n 0, 1) := by decide +kernel
theorem dX2_add_49 : decode cX2_add 49 = .ok (.getfield 32, 3) := by decide +kernel
theorem dX2_add_52 : decode cX2_add 52 = .ok (.iload_n 2, 1) := by decide +kernel
theorem dX2_add_53 : decode cX2_add 53 = .ok (.aaload, 1) := by decide +kernel
theorem dX2_add_54 : decode cX2_add 54 = .ok (.iload_n 1, 1) := by decide +kernel
theorem dX2_add_55 : decode cX2_add 55 = .ok (.iload 4, 2) := by decide +kernel
theorem dX2_add_57 : decode cX2_add 57 = .ok (.iastore, 1) := by decide +kernel
theorem dX2_add_58 : decode cX2_add 58 = .ok (.aload_n 0, 1) := by decide +kernel
theorem dX2_add_59 : decode cX2_add 59 = .ok (.dup, 1) := by decide +kernel
theorem dX2_add_60 : decode cX2_add 60 = .ok (.getfield 43, 3) := by decide +kernel
theorem dX2_add_63 : decode cX2_add 63 = .ok (.iconst 1, 1) := by decide +kernel
theorem dX2_add_64 : decode cX2_add 64 = .ok (.iadd, 1) := by decide +kernel
theorem dX2_add_65 : decode cX2_add 65 = .ok (.putfield 43, 3) := by decide +kernel
theorem dX2_add_68 : decode cX2_add 68 = .ok (.aload_n 0, 1) := by decide +kernel
theorem dX2_add_69 : decode cX2_add 69 = .ok (.iconst 1, 1) := by decide +kernel
theorem dX2_add_70 : decode cX2_add 70 = .ok (.putfield 52, 3) := by decide +kernel
theorem dX2_add_73 : decode cX2_add 73 = .ok (.iload 4, 2) := by decide +kernel
theorem dX2_add_75 : decode cX2_add 75 = .ok (.ireturn, 1) := by decide +kernel
theorem dX2_setCost_0 : decode cX2_setCost 0 = .ok (.aload_n 0, 1) := by decide +kernel
theorem dX2_setCost_1 : decode cX2_setCost 1 = .ok (.getfield 18, 3) := by decide +kernel
theorem dX2_setCost_4 : decode cX2_setCost 4 = .ok (.iload_n 1, 1) := by decide +kernel
theorem dX2_setCost_5 : decode cX2_setCost 5 = .ok (.iload_n 2, 1) := by decide +kernel
theorem dX2_setCost_6 : decode cX2_setCost 6 = .ok (.iastore, 1) := by decide +kernel
theorem dX2_setCost_7 : decode cX2_setCost 7 = .ok (.aload_n 0, 1) := by decide +kernel
theorem dX2_setCost_8 : decode cX2_setCost 8 = .ok (.iconst 1, 1) := by decide +kernel
theorem dX2_setCost_9 : decode cX2_setCost 9 = .ok (.putfield 52, 3) := by decide +kernel
theorem dX2_setCost_12 : decode cX2_setCost 12 = .ok (.return_, 1) := by decide +kernel
theorem dX2_linkAt_0 : decode cX2_linkAt 0 = .ok (.iload_n 1, 1) := by decide +kernel
theorem dX2_linkAt_1 : decode cX2_linkAt 1 = .ok (.ifCond .lt 23, 3) := by decide +kernel
theorem dX2_linkAt_4 : decode cX2_linkAt 4 = .ok (.iload_n 1, 1) := by decide +kernel
theorem dX2_linkAt_5 : decode cX2_linkAt 5 = .ok (.aload_n 0, 1) := by decide +kernel
theorem dX2_linkAt_6 : decode cX2_linkAt 6 = .ok (.getfield 39, 3) := by decide +kernel
theorem dX2_linkAt_9 : decode cX2_linkAt 9 = .ok (.if_icmp .ge 15, 3) := by decide +kernel
theorem dX2_linkAt_12 : decode cX2_linkAt 12 = .ok (.iload_n 2, 1) := by decide +kernel
theorem dX2_linkAt_13 : decode cX2_linkAt 13 = .ok (.ifCond .lt 11, 3) := by decide +kernel
theorem dX2_linkAt_16 : decode cX2_linkAt 16 = .ok (.iload_n 2, 1) := by decide +kernel
theorem dX2_linkAt_17 : decode cX2_linkAt 17 = .ok (.aload_n 0, 1) := by decide +kernel
theorem dX2_linkAt_18 : decode cX2_linkAt 18 = .ok (.getfield 39, 3) := by decide +kernel
theorem dX2_linkAt_21 : decode cX2_linkAt 21 = .ok (.if_icmp .lt 5, 3) := by decide +kernel
theorem dX2_linkAt_24 : decode cX2_linkAt 24 = .ok (.iconst (-1), 1) := by decide +kernel
theorem dX2_linkAt_25 : decode cX2_linkAt 25 = .ok (.ireturn, 1) := by decide +kernel
theorem dX2_linkAt_26 : decode cX2_linkAt 26 = .ok (.aload_n 0, 1) := by decide +kernel
theorem dX2_linkAt_27 : decode cX2_linkAt 27 = .ok (.getfield 32, 3) := by decide +kernel
theorem dX2_linkAt_30 : decode cX2_linkAt 30 = .ok (.iload_n 1, 1) := by decide +kernel
theorem dX2_linkAt_31 : decode cX2_linkAt 31 = .ok (.aaload, 1) := by decide +kernel
theorem dX2_linkAt_32 : decode cX2_linkAt 32 = .ok (.iload_n 2, 1) := by decide +kernel
theorem dX2_linkAt_33 : decode cX2_linkAt 33 = .ok (.iaload, 1) := by decide +kernel
theorem dX2_linkAt_34 : decode cX2_linkAt 34 = .ok (.ireturn, 1) := by decide +kernel
theorem dX2_costAt_0 : decode cX2_costAt 0 = .ok (.aload_n 0, 1) := by decide +kernel
theorem dX2_costAt_1 : decode cX2_costAt 1 = .ok (.iload_n 1, 1) := by decide +kernel
theorem dX2_costAt_2 : decode cX2_costAt 2 = .ok (.iload_n 2, 1) := by decide +kernel
theorem dX2_costAt_3 : decode cX2_costAt 3 = .ok (.invokevirtual 60, 3) := by decide +kernel
theorem dX2_costAt_6 : decode cX2_costAt 6 = .ok (.istore_n 3, 1) := by decide +kernel
theorem dX2_costAt_7 : decode cX2_costAt 7 = .ok (.iload_n 3, 1) := by decide +kernel
theorem dX2_costAt_8 : decode cX2_costAt 8 = .ok (.iconst (-1), 1) := by decide +kernel
theorem dX2_costAt_9 : decode cX2_costAt 9 = .ok (.if_icmp .ne 8, 3) := by decide +kernel
theorem dX2_costAt_12 : decode cX2_costAt 12 = .ok (.ldc 64, 2) := by decide +kernel
theorem dX2_costAt_14 : decode cX2_costAt 14 = .ok (.goto 9, 3) := by decide +kernel
theorem dX2_costAt_17 : decode cX2_costAt 17 = .ok (.aload_n 0, 1) := by decide +kernel
theorem dX2_costAt_18 : decode cX2_costAt 18 = .ok (.getfield 18, 3) := by decide +kernel
theorem dX2_costAt_21 : decode cX2_costAt 21 = .ok (.iload_n 3, 1) := by decide +kernel
theorem dX2_costAt_22 : decode cX2_costAt 22 = .ok (.iaload, 1) := by decide +kernel
theorem dX2_costAt_23 : decode cX2_costAt 23 = .ok (.ireturn, 1) := by decide +kernel
theorem dX2_costsTogether_0 : decode cX2_costsTogether 0 = .ok (.iconst 0, 1) := by decide +kernel
theorem dX2_costsTogether_1 : decode cX2_costsTogether 1 = .ok (.istore_n 1, 1) := by decide +kernel
theorem dX2_costsTogether_2 : decode cX2_costsTogether 2 = .ok (.iconst 0, 1) := by decide +kernel
theorem dX2_costsTogether_3 : decode cX2_costsTogether 3 = .ok (.istore_n 2, 1) := by decide +kernel
theorem dX2_costsTogether_4 : decode cX2_costsTogether 4 = .ok (.iload_n 2, 1) := by decide +kernel
theorem dX2_costsTogether_5 : decode cX2_costsTogether 5 = .ok (.aload_n 0, 1) := by decide +kernel
theorem dX2_costsTogether_6 : decode cX2_costsTogether 6 = .ok (.getfield 43, 3) := by decide +kernel
theorem dX2_costsTogether_9 : decode cX2_costsTogether 9 = .ok (.if_icmp .ge 18, 3) := by decide +kernel
theorem dX2_costsTogether_12 : decode cX2_costsTogether 12 = .ok (.iload_n 1, 1) := by decide +kernel
theorem dX2_costsTogether_13 : decode cX2_costsTogether 13 = .ok (.aload_n 0, 1) := by decide +kernel
theorem dX2_costsTogether_14 : decode cX2_costsTogether 14 = .ok (.getfield 18, 3) := by decide +kernel
theorem dX2_costsTogether_17 : decode cX2_costsTogether 17 = .ok (.iload_n 2, 1) := by decide +kernel
theorem dX2_costsTogether_18 : decode cX2_costsTogether 18 = .ok (.iaload, 1) := by decide +kernel
theorem dX2_costsTogether_19 : decode cX2_costsTogether 19 = .ok (.iadd, 1) := by decide +kernel
theorem dX2_costsTogether_20 : decode cX2_costsTogether 20 = .ok (.istore_n 1, 1) := by decide +kernel
theorem dX2_costsTogether_21 : decode cX2_costsTogether 21 = .ok (.iinc 2 1, 3) := by decide +kernel
theorem dX2_costsTogether_24 : decode cX2_costsTogether 24 = .ok (.goto (-20), 3) := by decide +kernel
theorem dX2_costsTogether_27 : decode cX2_costsTogether 27 = .ok (.iload_n 1, 1) := by decide +kernel
theorem dX2_costsTogether_28 : decode cX2_costsTogether 28 = .ok (.ireturn, 1) := by decide +kernel
theorem dX2_farthestFrom_0 : decode cX2_farthestFrom 0 = .ok (.iconst 0, 1) := by decide +kernel
theorem dX2_farthestFrom_1 : decode cX2_farthestFrom 1 = .ok (.istore_n 2, 1) := by decide +kernel
theorem dX2_farthestFrom_2 : decode cX2_farthestFrom 2 = .ok (.iconst 0, 1) := by decide +kernel
theorem dX2_farthestFrom_3 : decode cX2_farthestFrom 3 = .ok (.istore_n 3, 1) := by decide +kernel
theorem dX2_farthestFrom_4 : decode cX2_farthestFrom 4 = .ok (.iload_n 3, 1) := by decide +kernel
theorem dX2_farthestFrom_5 : decode cX2_farthestFrom 5 = .ok (.aload_n 0, 1) := by decide +kernel
theorem dX2_farthestFrom_6 : decode cX2_farthestFrom 6 = .ok (.getfield 39, 3) := by decide +kernel
theorem dX2_farthestFrom_9 : decode cX2_farthestFrom 9 = .ok (.if_icmp .ge 22, 3) := by decide +kernel
theorem dX2_farthestFrom_12 : decode cX2_farthestFrom 12 = .ok (.iload_n 2, 1) := by decide +kernel
theorem dX2_farthestFrom_13 : decode cX2_farthestFrom 13 = .ok (.aload_n 0, 1) := by decide +kernel
theorem dX2_farthestFrom_14 : decode cX2_farthestFrom 14 = .ok (.getfield 26, 3) := by decide +kernel
theorem dX2_farthestFrom_17 : decode cX2_farthestFrom 17 = .ok (.iload_n 1, 1) := by decide +kernel
theorem dX2_farthestFrom_18 : decode cX2_farthestFrom 18 = .ok (.aaload, 1) := by decide +kernel
theorem dX2_farthestFrom_19 : decode cX2_farthestFrom 19 = .ok (.iload_n 3, 1) := by decide +kernel
theorem dX2_farthestFrom_20 : decode cX2_farthestFrom 20 = .ok (.iaload, 1) := by decide +kernel
theorem dX2_farthestFrom_21 : decode cX2_farthestFrom 21 = .ok (.invokestatic 65, 3) := by decide +kernel
theorem dX2_farthestFrom_24 : decode cX2_farthestFrom 24 = .ok (.istore_n 2, 1) := by decide +kernel
theorem dX2_farthestFrom_25 : decode cX2_farthestFrom 25 = .ok (.iinc 3 1, 3) := by decide +kernel
theorem dX2_farthestFrom_28 : decode cX2_farthestFrom 28 = .ok (.goto (-24), 3) := by decide +kernel
theorem dX2_farthestFrom_31 : decode cX2_farthestFrom 31 = .ok (.iload_n 2, 1) := by decide +kernel
theorem dX2_farthestFrom_32 : decode cX2_farthestFrom 32 = .ok (.ireturn, 1) := by decide +kernel
theorem dX2_hop_0 : decode cX2_hop 0 = .ok (.aload_n 0, 1) := by decide +kernel
theorem dX2_hop_1 : decode cX2_hop 1 = .ok (.iload_n 1, 1) := by decide +kernel
theorem dX2_hop_2 : decode cX2_hop 2 = .ok (.invokevirtual 56, 3) := by decide +kernel
theorem dX2_hop_5 : decode cX2_hop 5 = .ok (.ifCond .eq 22, 3) := by decide +kernel
theorem dX2_hop_8 : decode cX2_hop 8 = .ok (.aload_n 0, 1) := by decide +kernel
theorem dX2_hop_9 : decode cX2_hop 9 = .ok (.iload_n 2, 1) := by decide +kernel
theorem dX2_hop_10 : decode cX2_hop 10 = .ok (.invokevirtual 56, 3) := by decide +kernel
theorem dX2_hop_13 : decode cX2_hop 13 = .ok (.ifCond .eq 14, 3) := by decide +kernel
theorem dX2_hop_16 : decode cX2_hop 16 = .ok (.aload_n 0, 1) := by decide +kernel
theorem dX2_hop_17 : decode cX2_hop 17 = .ok (.getfield 29, 3) := by decide +kernel
theorem dX2_hop_20 : decode cX2_hop 20 = .ok (.iload_n 1, 1) := by decide +kernel
theorem dX2_hop_21 : decode cX2_hop 21 = .ok (.aaload, 1) := by decide +kernel
theorem dX2_hop_22 : decode cX2_hop 22 = .ok (.iload_n 2, 1) := by decide +kernel
theorem dX2_hop_23 : decode cX2_hop 23 = .ok (.iaload, 1) := by decide +kernel
theorem dX2_hop_24 : decode cX2_hop 24 = .ok (.goto 4, 3) := by decide +kernel
theorem dX2_hop_27 : decode cX2_hop 27 = .ok (.iconst (-1), 1) := by decide +kernel
theorem dX2_hop_28 : decode cX2_hop 28 = .ok (.ireturn, 1) := by decide +kernel
theorem dX2_nodeOfWay_0 : decode cX2_nodeOfWay 0 = .ok (.iload_n 3, 1) := by decide +kernel
theorem dX2_nodeOfWay_1 : decode cX2_nodeOfWay 1 = .ok (.ifCond .lt 40, 3) := by decide +kernel
theorem dX2_nodeOfWay_4 : decode cX2_nodeOfWay 4 = .ok (.iload_n 3, 1) := by decide +kernel
theorem dX2_nodeOfWay_5 : decode cX2_nodeOfWay 5 = .ok (.aload_n 0, 1) := by decide +kernel
theorem dX2_nodeOfWay_6 : decode cX2_nodeOfWay 6 = .ok (.getfield 39, 3) := by decide +kernel
theorem dX2_nodeOfWay_9 : decode cX2_nodeOfWay 9 = .ok (.if_icmp .ge 32, 3) := by decide +kernel
theorem dX2_nodeOfWay_12 : decode cX2_nodeOfWay 12 = .ok (.aload_n 0, 1) := by decide +kernel
theorem dX2_nodeOfWay_13 : decode cX2_nodeOfWay 13 = .ok (.iload_n 1, 1) := by decide +kernel
theorem dX2_nodeOfWay_14 : decode cX2_nodeOfWay 14 = .ok (.invokevirtual 56, 3) := by decide +kernel
theorem dX2_nodeOfWay_17 : decode cX2_nodeOfWay 17 = .ok (.ifCond .eq 24, 3) := by decide +kernel
theorem dX2_nodeOfWay_20 : decode cX2_nodeOfWay 20 = .ok (.aload_n 0, 1) := by decide +kernel
theorem dX2_nodeOfWay_21 : decode cX2_nodeOfWay 21 = .ok (.iload_n 2, 1) := by decide +kernel
theorem dX2_nodeOfWay_22 : decode cX2_nodeOfWay 22 = .ok (.invokevirtual 56, 3) := by decide +kernel
theorem dX2_nodeOfWay_25 : decode cX2_nodeOfWay 25 = .ok (.ifCond .eq 16, 3) := by decide +kernel
theorem dX2_nodeOfWay_28 : decode cX2_nodeOfWay 28 = .ok (.aload_n 0, 1) := by decide +kernel
theorem dX2_nodeOfWay_29 : decode cX2_nodeOfWay 29 = .ok (.getfield 26, 3) := by decide +kernel
theorem dX2_nodeOfWay_32 : decode cX2_nodeOfWay 32 = .ok (.iload_n 1, 1) := by decide +kernel
theorem dX2_nodeOfWay_33 : decode cX2_nodeOfWay 33 = .ok (.aaload, 1) := by decide +kernel
theorem dX2_nodeOfWay_34 : decode cX2_nodeOfWay 34 = .ok (.iload_n 2, 1) := by decide +kernel
theorem dX2_nodeOfWay_35 : decode cX2_nodeOfWay 35 = .ok (.iaload, 1) := by decide +kernel
theorem dX2_nodeOfWay_36 : decode cX2_nodeOfWay 36 = .ok (.ldc 64, 2) := by decide +kernel
theorem dX2_nodeOfWay_38 : decode cX2_nodeOfWay 38 = .ok (.if_icmp .lt 5, 3) := by decide +kernel
theorem dX2_nodeOfWay_41 : decode cX2_nodeOfWay 41 = .ok (.iconst (-1), 1) := by decide +kernel
theorem dX2_nodeOfWay_42 : decode cX2_nodeOfWay 42 = .ok (.ireturn, 1) := by decide +kernel
theorem dX2_nodeOfWay_43 : decode cX2_nodeOfWay 43 = .ok (.iload_n 1, 1) := by decide +kernel
theorem dX2_nodeOfWay_44 : decode cX2_nodeOfWay 44 = .ok (.istore 4, 2) := by decide +kernel
theorem dX2_nodeOfWay_46 : decode cX2_nodeOfWay 46 = .ok (.iconst 0, 1) := by decide +kernel
theorem dX2_nodeOfWay_47 : decode cX2_nodeOfWay 47 = .ok (.istore 5, 2) := by decide +kernel
theorem dX2_nodeOfWay_49 : decode cX2_nodeOfWay 49 = .ok (.iload 5, 2) := by decide +kernel
theorem dX2_nodeOfWay_51 : decode cX2_nodeOfWay 51 = .ok (.iload_n 3, 1) := by decide +kernel
theorem dX2_nodeOfWay_52 : decode cX2_nodeOfWay 52 = .ok (.if_icmp .ge 24, 3) := by decide +kernel
theorem dX2_nodeOfWay_55 : decode cX2_nodeOfWay 55 = .ok (.iload 4, 2) := by decide +kernel
theorem dX2_nodeOfWay_57 : decode cX2_nodeOfWay 57 = .ok (.iconst (-1), 1) := by decide +kernel
theorem dX2_nodeOfWay_58 : decode cX2_nodeOfWay 58 = .ok (.if_icmp .eq 18, 3) := by decide +kernel
theorem dX2_nodeOfWay_61 : decode cX2_nodeOfWay 61 = .ok (.aload_n 0, 1) := by decide +kernel
theorem dX2_nodeOfWay_62 : decode cX2_nodeOfWay 62 = .ok (.iload 4, 2) := by decide +kernel
theorem dX2_nodeOfWay_64 : decode cX2_nodeOfWay 64 = .ok (.iload_n 2, 1) := by decide +kernel
theorem dX2_nodeOfWay_65 : decode cX2_nodeOfWay 65 = .ok (.invokevirtual 70, 3) := by decide +kernel
theorem dX2_nodeOfWay_68 : decode cX2_nodeOfWay 68 = .ok (.istore 4, 2) := by decide +kernel
theorem dX2_nodeOfWay_70 : decode cX2_nodeOfWay 70 = .ok (.iinc 5 1, 3) := by decide +kernel
theorem dX2_nodeOfWay_73 : decode cX2_nodeOfWay 73 = .ok (.goto (-24), 3) := by decide +kernel
theorem dX2_nodeOfWay_76 : decode cX2_nodeOfWay 76 = .ok (.iload 4, 2) := by decide +kernel
theorem dX2_nodeOfWay_78 : decode cX2_nodeOfWay 78 = .ok (.ireturn, 1) := by decide +kernel
theorem dX2_isWayWithin_0 : decode cX2_isWayWithin 0 = .ok (.iload_n 1, 1) := by decide +kernel
theorem dX2_isWayWithin_1 : decode cX2_isWayWithin 1 = .ok (.istore 4, 2) := by decide +kernel
theorem dX2_isWayWithin_3 : decode cX2_isWayWithin 3 = .ok (.iconst 0, 1) := by decide +kernel
theorem dX2_isWayWithin_4 : decode cX2_isWayWithin 4 = .ok (.istore 5, 2) := by decide +kernel
theorem dX2_isWayWithin_6 : decode cX2_isWayWithin 6 = .ok (.iload 5, 2) := by decide +kernel
theorem dX2_isWayWithin_8 : decode cX2_isWayWithin 8 = .ok (.aload_n 0, 1) := by decide +kernel
theorem dX2_isWayWithin_9 : decode cX2_isWayWithin 9 = .ok (.getfield 39, 3) := by decide +kernel
theorem dX2_isWayWithin_12 : decode cX2_isWayWithin 12 = .ok (.if_icmp .ge 41, 3) := by decide +kernel
theorem dX2_isWayWithin_15 : decode cX2_isWayWithin 15 = .ok (.iload 4, 2) := by decide +kernel
theorem dX2_isWayWithin_17 : decode cX2_isWayWithin 17 = .ok (.iload_n 2, 1) := by decide +kernel
theorem dX2_isWayWithin_18 : decode cX2_isWayWithin 18 = .ok (.if_icmp .eq 35, 3) := by decide +kernel
theorem dX2_isWayWithin_21 : decode cX2_isWayWithin 21 = .ok (.iload 4, 2) := by decide +kernel
theorem dX2_isWayWithin_23 : decode cX2_isWayWithin 23 = .ok (.iconst (-1), 1) := by decide +kernel
theorem dX2_isWayWithin_24 : decode cX2_isWayWithin 24 = .ok (.if_icmp .eq 12, 3) := by decide +kernel
theorem dX2_isWayWithin_27 : decode cX2_isWayWithin 27 = .ok (.iload_n 3, 1) := by decide +kernel
theorem dX2_isWayWithin_28 : decode cX2_isWayWithin 28 = .ok (.iload 4, 2) := by decide +kernel
theorem dX2_isWayWithin_30 : decode cX2_isWayWithin 30 = .ok (.invokestatic 73, 3) := by decide +kernel
theorem dX2_isWayWithin_33 : decode cX2_isWayWithin 33 = .ok (.ifCond .ne 5, 3) := by decide +kernel
theorem dX2_isWayWithin_36 : decode cX2_isWayWithin 36 = .ok (.iconst 0, 1) := by decide +kernel
theorem dX2_isWayWithin_37 : decode cX2_isWayWithin 37 = .ok (.ireturn, 1) := by decide +kernel
theorem dX2_isWayWithin_38 : decode cX2_isWayWithin 38 = .ok (.aload_n 0, 1) := by decide +kernel
theorem dX2_isWayWithin_39 : decode cX2_isWayWithin 39 = .ok (.iload 4, 2) := by decide +kernel
theorem dX2_isWayWithin_41 : decode cX2_isWayWithin 41 = .ok (.iload_n 2, 1) := by decide +kernel
theorem dX2_isWayWithin_42 : decode cX2_isWayWithin 42 = .ok (.invokevirtual 70, 3) := by decide +kernel
theorem dX2_isWayWithin_45 : decode cX2_isWayWithin 45 = .ok (.istore 4, 2) := by decide +kernel
theorem dX2_isWayWithin_47 : decode cX2_isWayWithin 47 = .ok (.iinc 5 1, 3) := by decide +kernel
theorem dX2_isWayWithin_50 : decode cX2_isWayWithin 50 = .ok (.goto (-44), 3) := by decide +kernel
theorem dX2_isWayWithin_53 : decode cX2_isWayWithin 53 = .ok (.iload 4, 2) := by decide +kernel
theorem dX2_isWayWithin_55 : decode cX2_isWayWithin 55 = .ok (.iload_n 2, 1) := by decide +kernel
theorem dX2_isWayWithin_56 : decode cX2_isWayWithin 56 = .ok (.if_icmp .ne 7, 3) := by decide +kernel
theorem dX2_isWayWithin_59 : decode cX2_isWayWithin 59 = .ok (.iconst 1, 1) := by decide +kernel
theorem dX2_isWayWithin_60 : decode cX2_isWayWithin 60 = .ok (.goto 4, 3) := by decide +kernel
theorem dX2_isWayWithin_63 : decode cX2_isWayWithin 63 = .ok (.iconst 0, 1) := by decide +kernel
theorem dX2_isWayWithin_64 : decode cX2_isWayWithin 64 = .ok (.ireturn, 1) := by decide +kernel
theorem dX2_settle_0 : decode cX2_settle 0 = .ok (.aload_n 0, 1) := by decide +kernel
theorem dX2_settle_1 : decode cX2_settle 1 = .ok (.getfield 52, 3) := by decide +kernel
theorem dX2_settle_4 : decode cX2_settle 4 = .ok (.ifCond .ne 4, 3) := by decide +kernel
theorem dX2_settle_7 : decode cX2_settle 7 = .ok (.return_, 1) := by decide +kernel
theorem dX2_settle_8 : decode cX2_settle 8 = .ok (.aload_n 0, 1) := by decide +kernel
theorem dX2_settle_9 : decode cX2_settle 9 = .ok (.iconst 0, 1) := by decide +kernel
theorem dX2_settle_10 : decode cX2_settle 10 = .ok (.putfield 52, 3) := by decide +kernel
theorem dX2_settle_13 : decode cX2_settle 13 = .ok (.iconst 0, 1) := by decide +kernel
theorem dX2_settle_14 : decode cX2_settle 14 = .ok (.istore_n 1, 1) := by decide +kernel
theorem dX2_settle_15 : decode cX2_settle 15 = .ok (.iload_n 1, 1) := by decide +kernel
theorem dX2_settle_16 : decode cX2_settle 16 = .ok (.aload_n 0, 1) := by decide +kernel
theorem dX2_settle_17 : decode cX2_settle 17 = .ok (.getfield 39, 3) := by decide +kernel
theorem dX2_settle_20 : decode cX2_settle 20 = .ok (.if_icmp .ge 57, 3) := by decide +kernel
theorem dX2_settle_23 : decode cX2_settle 23 = .ok (.aload_n 0, 1) := by decide +kernel
theorem dX2_settle_24 : decode cX2_settle 24 = .ok (.aload_n 0, 1) := by decide +kernel
theorem dX2_settle_25 : decode cX2_settle 25 = .ok (.getfield 26, 3) := by decide +kernel
theorem dX2_settle_28 : decode cX2_settle 28 = .ok (.iload_n 1, 1) := by decide +kernel
theorem dX2_settle_29 : decode cX2_settle 29 = .ok (.aaload, 1) := by decide +kernel
theorem dX2_settle_30 : decode cX2_settle 30 = .ok (.iload_n 1, 1) := by decide +kernel
theorem dX2_settle_31 : decode cX2_settle 31 = .ok (.iconst (-1), 1) := by decide +kernel
theorem dX2_settle_32 : decode cX2_settle 32 = .ok (.invokevirtual 77, 3) := by decide +kernel
theorem dX2_settle_35 : decode cX2_settle 35 = .ok (.iconst 0, 1) := by decide +kernel
theorem dX2_settle_36 : decode cX2_settle 36 = .ok (.istore_n 2, 1) := by decide +kernel
theorem dX2_settle_37 : decode cX2_settle 37 = .ok (.iload_n 2, 1) := by decide +kernel
theorem dX2_settle_38 : decode cX2_settle 38 = .ok (.aload_n 0, 1) := by decide +kernel
theorem dX2_settle_39 : decode cX2_settle 39 = .ok (.getfield 39, 3) := by decide +kernel
theorem dX2_settle_42 : decode cX2_settle 42 = .ok (.if_icmp .ge 29, 3) := by decide +kernel
theorem dX2_settle_45 : decode cX2_settle 45 = .ok (.aload_n 0, 1) := by decide +kernel
theorem dX2_settle_46 : decode cX2_settle 46 = .ok (.getfield 29, 3) := by decide +kernel
theorem dX2_settle_49 : decode cX2_settle 49 = .ok (.iload_n 2, 1) := by decide +kernel
theorem dX2_settle_50 : decode cX2_settle 50 = .ok (.aaload, 1) := by decide +kernel
theorem dX2_settle_51 : decode cX2_settle 51 = .ok (.iload_n 1, 1) := by decide +kernel
theorem dX2_settle_52 : decode cX2_settle 52 = .ok (.aload_n 0, 1) := by decide +kernel
theorem dX2_settle_53 : decode cX2_settle 53 = .ok (.aload_n 0, 1) := by decide +kernel
theorem dX2_settle_54 : decode cX2_settle 54 = .ok (.getfield 26, 3) := by decide +kernel
theorem dX2_settle_57 : decode cX2_settle 57 = .ok (.iload_n 1, 1) := by decide +kernel
theorem dX2_settle_58 : decode cX2_settle 58 = .ok (.aaload, 1) := by decide +kernel
theorem dX2_settle_59 : decode cX2_settle 59 = .ok (.iload_n 2, 1) := by decide +kernel
theorem dX2_settle_60 : decode cX2_settle 60 = .ok (.iconst (-1), 1) := by decide +kernel
theorem dX2_settle_61 : decode cX2_settle 61 = .ok (.invokevirtual 81, 3) := by decide +kernel
theorem dX2_settle_64 : decode cX2_settle 64 = .ok (.iastore, 1) := by decide +kernel
theorem dX2_settle_65 : decode cX2_settle 65 = .ok (.iinc 2 1, 3) := by decide +kernel
theorem dX2_settle_68 : decode cX2_settle 68 = .ok (.goto (-31), 3) := by decide +kernel
theorem dX2_settle_71 : decode cX2_settle 71 = .ok (.iinc 1 1, 3) := by decide +kernel
theorem dX2_settle_74 : decode cX2_settle 74 = .ok (.goto (-59), 3) := by decide +kernel
theorem dX2_settle_77 : decode cX2_settle 77 = .ok (.return_, 1) := by decide +kernel
theorem dX2_measure_0 : decode cX2_measure 0 = .ok (.aload_n 1, 1) := by decide +kernel
theorem dX2_measure_1 : decode cX2_measure 1 = .ok (.ldc 64, 2) := by decide +kernel
theorem dX2_measure_3 : decode cX2_measure 3 = .ok (.invokestatic 46, 3) := by decide +kernel
theorem dX2_measure_6 : decode cX2_measure 6 = .ok (.aload_n 1, 1) := by decide +kernel
theorem dX2_measure_7 : decode cX2_measure 7 = .ok (.iload_n 2, 1) := by decide +kernel
theorem dX2_measure_8 : decode cX2_measure 8 = .ok (.iconst 0, 1) := by decide +kernel
theorem dX2_measure_9 : decode cX2_measure 9 = .ok (.iastore, 1) := by decide +kernel
