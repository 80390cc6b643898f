theorem dX0_init_0 : decode cX0_init 0 = .ok (.aload_n 0, 1) := by decide +kernel
theorem dX0_init_1 : decode cX0_init 1 = .ok (.invokespecial 3, 3) := by decide +kernel
theorem dX0_init_4 : decode cX0_init 4 = .ok (.aload_n 0, 1) := by decide +kernel
theorem dX0_init_5 : decode cX0_init 5 = .ok (.iconst 0, 1) := by decide +kernel
theorem dX0_init_6 : decode cX0_init 6 = .ok (.putfield 9, 3) := by decide +kernel
theorem dX0_init_9 : decode cX0_init 9 = .ok (.aload_n 0, 1) := by decide +kernel
theorem dX0_init_10 : decode cX0_init 10 = .ok (.iconst 0, 1) := by decide +kernel
theorem dX0_init_11 : decode cX0_init 11 = .ok (.putfield 15, 3) := by decide +kernel
theorem dX0_init_14 : decode cX0_init 14 = .ok (.aload_n 0, 1) := by decide +kernel
theorem dX0_init_15 : decode cX0_init 15 = .ok (.iconst 0, 1) := by decide +kernel
theorem dX0_init_16 : decode cX0_init 16 = .ok (.putfield 19, 3) := by decide +kernel
theorem dX0_init_19 : decode cX0_init 19 = .ok (.aload_n 0, 1) := by decide +kernel
theorem dX0_init_20 : decode cX0_init 20 = .ok (.iconst 0, 1) := by decide +kernel
theorem dX0_init_21 : decode cX0_init 21 = .ok (.putfield 22, 3) := by decide +kernel
theorem dX0_init_24 : decode cX0_init 24 = .ok (.aload_n 0, 1) := by decide +kernel
theorem dX0_init_25 : decode cX0_init 25 = .ok (.bipush 6, 2) := by decide +kernel
theorem dX0_init_27 : decode cX0_init 27 = .ok (.newarray .int, 2) := by decide +kernel
theorem dX0_init_29 : decode cX0_init 29 = .ok (.putfield 25, 3) := by decide +kernel
theorem dX0_init_32 : decode cX0_init 32 = .ok (.return_, 1) := by decide +kernel
theorem dX0_begin_0 : decode cX0_begin 0 = .ok (.aload_n 0, 1) := by decide +kernel
theorem dX0_begin_1 : decode cX0_begin 1 = .ok (.iconst 0, 1) := by decide +kernel
theorem dX0_begin_2 : decode cX0_begin 2 = .ok (.putfield 9, 3) := by decide +kernel
theorem dX0_begin_5 : decode cX0_begin 5 = .ok (.aload_n 0, 1) := by decide +kernel
theorem dX0_begin_6 : decode cX0_begin 6 = .ok (.iload_n 1, 1) := by decide +kernel
theorem dX0_begin_7 : decode cX0_begin 7 = .ok (.putfield 22, 3) := by decide +kernel
theorem dX0_begin_10 : decode cX0_begin 10 = .ok (.return_, 1) := by decide +kernel
theorem dX0_isHopeless_0 : decode cX0_isHopeless 0 = .ok (.iload_n 3, 1) := by decide +kernel
theorem dX0_isHopeless_1 : decode cX0_isHopeless 1 = .ok (.ifCond .eq 5, 3) := by decide +kernel
theorem dX0_isHopeless_4 : decode cX0_isHopeless 4 = .ok (.iconst 1, 1) := by decide +kernel
theorem dX0_isHopeless_5 : decode cX0_isHopeless 5 = .ok (.ireturn, 1) := by decide +kernel
theorem dX0_isHopeless_6 : decode cX0_isHopeless 6 = .ok (.aload_n 0, 1) := by decide +kernel
theorem dX0_isHopeless_7 : decode cX0_isHopeless 7 = .ok (.getfield 9, 3) := by decide +kernel
theorem dX0_isHopeless_10 : decode cX0_isHopeless 10 = .ok (.ifCond .ne 5, 3) := by decide +kernel
theorem dX0_isHopeless_13 : decode cX0_isHopeless 13 = .ok (.iconst 0, 1) := by decide +kernel
theorem dX0_isHopeless_14 : decode cX0_isHopeless 14 = .ok (.ireturn, 1) := by decide +kernel
theorem dX0_isHopeless_15 : decode cX0_isHopeless 15 = .ok (.aload_n 0, 1) := by decide +kernel
theorem dX0_isHopeless_16 : decode cX0_isHopeless 16 = .ok (.getfield 22, 3) := by decide +kernel
theorem dX0_isHopeless_19 : decode cX0_isHopeless 19 = .ok (.ifCond .eq 33, 3) := by decide +kernel
theorem dX0_isHopeless_22 : decode cX0_isHopeless 22 = .ok (.iload_n 2, 1) := by decide +kernel
theorem dX0_isHopeless_23 : decode cX0_isHopeless 23 = .ok (.aload_n 0, 1) := by decide +kernel
theorem dX0_isHopeless_24 : decode cX0_isHopeless 24 = .ok (.getfield 19, 3) := by decide +kernel
theorem dX0_isHopeless_27 : decode cX0_isHopeless 27 = .ok (.if_icmp .lt 19, 3) := by decide +kernel
theorem dX0_isHopeless_30 : decode cX0_isHopeless 30 = .ok (.iload_n 2, 1) := by decide +kernel
theorem dX0_isHopeless_31 : decode cX0_isHopeless 31 = .ok (.aload_n 0, 1) := by decide +kernel
theorem dX0_isHopeless_32 : decode cX0_isHopeless 32 = .ok (.getfield 19, 3) := by decide +kernel
theorem dX0_isHopeless_35 : decode cX0_isHopeless 35 = .ok (.if_icmp .ne 15, 3) := by decide +kernel
theorem dX0_isHopeless_38 : decode cX0_isHopeless 38 = .ok (.iload_n 1, 1) := by decide +kernel
theorem dX0_isHopeless_39 : decode cX0_isHopeless 39 = .ok (.aload_n 0, 1) := by decide +kernel
theorem dX0_isHopeless_40 : decode cX0_isHopeless 40 = .ok (.getfield 15, 3) := by decide +kernel
theorem dX0_isHopeless_43 : decode cX0_isHopeless 43 = .ok (.if_icmp .lt 7, 3) := by decide +kernel
theorem dX0_isHopeless_46 : decode cX0_isHopeless 46 = .ok (.iconst 1, 1) := by decide +kernel
theorem dX0_isHopeless_47 : decode cX0_isHopeless 47 = .ok (.goto 4, 3) := by decide +kernel
theorem dX0_isHopeless_50 : decode cX0_isHopeless 50 = .ok (.iconst 0, 1) := by decide +kernel
theorem dX0_isHopeless_51 : decode cX0_isHopeless 51 = .ok (.ireturn, 1) := by decide +kernel
theorem dX0_isHopeless_52 : decode cX0_isHopeless 52 = .ok (.iload_n 1, 1) := by decide +kernel
theorem dX0_isHopeless_53 : decode cX0_isHopeless 53 = .ok (.aload_n 0, 1) := by decide +kernel
theorem dX0_isHopeless_54 : decode cX0_isHopeless 54 = .ok (.getfield 15, 3) := by decide +kernel
theorem dX0_isHopeless_57 : decode cX0_isHopeless 57 = .ok (.if_icmp .gt 19, 3) := by decide +kernel
theorem dX0_isHopeless_60 : decode cX0_isHopeless 60 = .ok (.iload_n 1, 1) := by decide +kernel
theorem dX0_isHopeless_61 : decode cX0_isHopeless 61 = .ok (.aload_n 0, 1) := by decide +kernel
theorem dX0_isHopeless_62 : decode cX0_isHopeless 62 = .ok (.getfield 15, 3) := by decide +kernel
theorem dX0_isHopeless_65 : decode cX0_isHopeless 65 = .ok (.if_icmp .ne 15, 3) := by decide +kernel
theorem dX0_isHopeless_68 : decode cX0_isHopeless 68 = .ok (.iload_n 2, 1) := by decide +kernel
theorem dX0_isHopeless_69 : decode cX0_isHopeless 69 = .ok (.aload_n 0, 1) := by decide +kernel
theorem dX0_isHopeless_70 : decode cX0_isHopeless 70 = .ok (.getfield 19, 3) := by decide +kernel
theorem dX0_isHopeless_73 : decode cX0_isHopeless 73 = .ok (.if_icmp .gt 7, 3) := by decide +kernel
theorem dX0_isHopeless_76 : decode cX0_isHopeless 76 = .ok (.iconst 1, 1) := by decide +kernel
theorem dX0_isHopeless_77 : decode cX0_isHopeless 77 = .ok (.goto 4, 3) := by decide +kernel
theorem dX0_isHopeless_80 : decode cX0_isHopeless 80 = .ok (.iconst 0, 1) := by decide +kernel
theorem dX0_isHopeless_81 : decode cX0_isHopeless 81 = .ok (.ireturn, 1) := by decide +kernel
theorem dX0_reach_0 : decode cX0_reach 0 = .ok (.aload_n 0, 1) := by decide +kernel
theorem dX0_reach_1 : decode cX0_reach 1 = .ok (.iconst 1, 1) := by decide +kernel
theorem dX0_reach_2 : decode cX0_reach 2 = .ok (.putfield 9, 3) := by decide +kernel
theorem dX0_reach_5 : decode cX0_reach 5 = .ok (.aload_n 0, 1) := by decide +kernel
theorem dX0_reach_6 : decode cX0_reach 6 = .ok (.iload_n 2, 1) := by decide +kernel
theorem dX0_reach_7 : decode cX0_reach 7 = .ok (.putfield 15, 3) := by decide +kernel
theorem dX0_reach_10 : decode cX0_reach 10 = .ok (.aload_n 0, 1) := by decide +kernel
theorem dX0_reach_11 : decode cX0_reach 11 = .ok (.iload_n 3, 1) := by decide +kernel
theorem dX0_reach_12 : decode cX0_reach 12 = .ok (.putfield 19, 3) := by decide +kernel
theorem dX0_reach_15 : decode cX0_reach 15 = .ok (.aload_n 1, 1) := by decide +kernel
theorem dX0_reach_16 : decode cX0_reach 16 = .ok (.iconst 0, 1) := by decide +kernel
theorem dX0_reach_17 : decode cX0_reach 17 = .ok (.aload_n 0, 1) := by decide +kernel
theorem dX0_reach_18 : decode cX0_reach 18 = .ok (.getfield 25, 3) := by decide +kernel
theorem dX0_reach_21 : decode cX0_reach 21 = .ok (.iconst 0, 1) := by decide +kernel
theorem dX0_reach_22 : decode cX0_reach 22 = .ok (.bipush 6, 2) := by decide +kernel
theorem dX0_reach_24 : decode cX0_reach 24 = .ok (.invokestatic 29, 3) := by decide +kernel
theorem dX0_reach_27 : decode cX0_reach 27 = .ok (.return_, 1) := by decide +kernel
theorem dX1_init_0 : decode cX1_init 0 = .ok (.aload_n 0, 1) := by decide +kernel
theorem dX1_init_1 : decode cX1_init 1 = .ok (.invokespecial 3, 3) := by decide +kernel
theorem dX1_init_4 : decode cX1_init 4 = .ok (.aload_n 0, 1) := by decide +kernel
theorem dX1_init_5 : decode cX1_init 5 = .ok (.iconst 0, 1) := by decide +kernel
theorem dX1_init_6 : decode cX1_init 6 = .ok (.putfield 9, 3) := by decide +kernel
theorem dX1_init_9 : decode cX1_init 9 = .ok (.aload_n 0, 1) := by decide +kernel
theorem dX1_init_10 : decode cX1_init 10 = .ok (.sipush 4096, 3) := by decide +kernel
theorem dX1_init_13 : decode cX1_init 13 = .ok (.newarray .boolean, 2) := by decide +kernel
theorem dX1_init_15 : decode cX1_init 15 = .ok (.putfield 15, 3) := by decide +kernel
theorem dX1_init_18 : decode cX1_init 18 = .ok (.return_, 1) := by decide +kernel
theorem dX1_begin_0 : decode cX1_begin 0 = .ok (.aload_n 0, 1) := by decide +kernel
theorem dX1_begin_1 : decode cX1_begin 1 = .ok (.iconst 1, 1) := by decide +kernel
theorem dX1_begin_2 : decode cX1_begin 2 = .ok (.iload_n 1, 1) := by decide +kernel
theorem dX1_begin_3 : decode cX1_begin 3 = .ok (.ishl, 1) := by decide +kernel
theorem dX1_begin_4 : decode cX1_begin 4 = .ok (.iconst 1, 1) := by decide +kernel
theorem dX1_begin_5 : decode cX1_begin 5 = .ok (.isub, 1) := by decide +kernel
theorem dX1_begin_6 : decode cX1_begin 6 = .ok (.putfield 9, 3) := by decide +kernel
theorem dX1_begin_9 : decode cX1_begin 9 = .ok (.iconst 0, 1) := by decide +kernel
theorem dX1_begin_10 : decode cX1_begin 10 = .ok (.istore_n 2, 1) := by decide +kernel
theorem dX1_begin_11 : decode cX1_begin 11 = .ok (.iload_n 2, 1) := by decide +kernel
theorem dX1_begin_12 : decode cX1_begin 12 = .ok (.aload_n 0, 1) := by decide +kernel
theorem dX1_begin_13 : decode cX1_begin 13 = .ok (.getfield 9, 3) := by decide +kernel
theorem dX1_begin_16 : decode cX1_begin 16 = .ok (.if_icmp .gt 16, 3) := by decide +kernel
theorem dX1_begin_19 : decode cX1_begin 19 = .ok (.aload_n 0, 1) := by decide +kernel
theorem dX1_begin_20 : decode cX1_begin 20 = .ok (.getfield 15, 3) := by decide +kernel
theorem dX1_begin_23 : decode cX1_begin 23 = .ok (.iload_n 2, 1) := by decide +kernel
theorem dX1_begin_24 : decode cX1_begin 24 = .ok (.iconst 0, 1) := by decide +kernel
theorem dX1_begin_25 : decode cX1_begin 25 = .ok (.bastore, 1) := by decide +kernel
theorem dX1_begin_26 : decode cX1_begin 26 = .ok (.iinc 2 1, 3) := by decide +kernel
theorem dX1_begin_29 : decode cX1_begin 29 = .ok (.goto (-18), 3) := by decide +kernel
theorem dX1_begin_32 : decode cX1_begin 32 = .ok (.return_, 1) := by decide +kernel
theorem dX1_isHopeless_0 : decode cX1_isHopeless 0 = .ok (.aload_n 0, 1) := by decide +kernel
theorem dX1_isHopeless_1 : decode cX1_isHopeless 1 = .ok (.getfield 15, 3) := by decide +kernel
theorem dX1_isHopeless_4 : decode cX1_isHopeless 4 = .ok (.iload_n 3, 1) := by decide +kernel
theorem dX1_isHopeless_5 : decode cX1_isHopeless 5 = .ok (.aload_n 0, 1) := by decide +kernel
theorem dX1_isHopeless_6 : decode cX1_isHopeless 6 = .ok (.getfield 9, 3) := by decide +kernel
theorem dX1_isHopeless_9 : decode cX1_isHopeless 9 = .ok (.iand, 1) := by decide +kernel
theorem dX1_isHopeless_10 : decode cX1_isHopeless 10 = .ok (.baload, 1) := by decide +kernel
theorem dX1_isHopeless_11 : decode cX1_isHopeless 11 = .ok (.ireturn, 1) := by decide +kernel
theorem dX1_reach_0 : decode cX1_reach 0 = .ok (.iload 4, 2) := by decide +kernel
theorem dX1_reach_2 : decode cX1_reach 2 = .ok (.aload_n 0, 1) := by decide +kernel
theorem dX1_reach_3 : decode cX1_reach 3 = .ok (.getfield 9, 3) := by decide +kernel
theorem dX1_reach_6 : decode cX1_reach 6 = .ok (.iand, 1) := by decide +kernel
theorem dX1_reach_7 : decode cX1_reach 7 = .ok (.istore 5, 2) := by decide +kernel
theorem dX1_reach_9 : decode cX1_reach 9 = .ok (.iload 5, 2) := by decide +kernel
theorem dX1_reach_11 : decode cX1_reach 11 = .ok (.istore 6, 2) := by decide +kernel
theorem dX1_reach_13 : decode cX1_reach 13 = .ok (.iload 6, 2) := by decide +kernel
theorem dX1_reach_15 : decode cX1_reach 15 = .ok (.aload_n 0, 1) := by decide +kernel
theorem dX1_reach_16 : decode cX1_reach 16 = .ok (.getfield 9, 3) := by decide +kernel
theorem dX1_reach_19 : decode cX1_reach 19 = .ok (.if_icmp .gt 23, 3) := by decide +kernel
theorem dX1_reach_22 : decode cX1_reach 22 = .ok (.aload_n 0, 1) := by decide +kernel
theorem dX1_reach_23 : decode cX1_reach 23 = .ok (.getfield 15, 3) := by decide +kernel
theorem dX1_reach_26 : decode cX1_reach 26 = .ok (.iload 6, 2) := by decide +kernel
theorem dX1_reach_28 : decode cX1_reach 28 = .ok (.iconst 1, 1) := by decide +kernel
theorem dX1_reach_29 : decode cX1_reach 29 = .ok (.bastore, 1) := by decide +kernel
theorem dX1_reach_30 : decode cX1_reach 30 = .ok (.iload 6, 2) := by decide +kernel
theorem dX1_reach_32 : decode cX1_reach 32 = .ok (.iconst 1, 1) := by decide +kernel
theorem dX1_reach_33 : decode cX1_reach 33 = .ok (.iadd, 1) := by decide +kernel
theorem dX1_reach_34 : decode cX1_reach 34 = .ok (.iload 5, 2) := by decide +kernel
theorem dX1_reach_36 : decode cX1_reach 36 = .ok (.ior, 1) := by decide +kernel
theorem dX1_reach_37 : decode cX1_reach 37 = .ok (.istore 6, 2) := by decide +kernel
theorem dX1_reach_39 : decode cX1_reach 39 = .ok (.goto (-26), 3) := by decide +kernel
theorem dX1_reach_42 : decode cX1_reach 42 = .ok (.return_, 1) := by decide +kernel
theorem dX1_leastSet_0 : decode cX1_leastSet 0 = .ok (.bipush (-5), 2) := by decide +kernel
theorem dX1_leastSet_2 : decode cX1_leastSet 2 = .ok (.istore_n 1, 1) := by decide +kernel
theorem dX1_leastSet_3 : decode cX1_leastSet 3 = .ok (.iconst 0, 1) := by decide +kernel
theorem dX1_leastSet_4 : decode cX1_leastSet 4 = .ok (.istore_n 2, 1) := by decide +kernel
theorem dX1_leastSet_5 : decode cX1_leastSet 5 = .ok (.iload_n 2, 1) := by decide +kernel
theorem dX1_leastSet_6 : decode cX1_leastSet 6 = .ok (.aload_n 0, 1) := by decide +kernel
theorem dX1_leastSet_7 : decode cX1_leastSet 7 = .ok (.getfield 9, 3) := by decide +kernel
theorem dX1_leastSet_10 : decode cX1_leastSet 10 = .ok (.if_icmp .gt 41, 3) := by decide +kernel
theorem dX1_leastSet_13 : decode cX1_leastSet 13 = .ok (.aload_n 0, 1) := by decide +kernel
theorem dX1_leastSet_14 : decode cX1_leastSet 14 = .ok (.getfield 15, 3) := by decide +kernel
theorem dX1_leastSet_17 : decode cX1_leastSet 17 = .ok (.aload_n 0, 1) := by decide +kernel
theorem dX1_leastSet_18 : decode cX1_leastSet 18 = .ok (.getfield 9, 3) := by decide +kernel
theorem dX1_leastSet_21 : decode cX1_leastSet 21 = .ok (.iload_n 2, 1) := by decide +kernel
theorem dX1_leastSet_22 : decode cX1_leastSet 22 = .ok (.iconst (-1), 1) := by decide +kernel
theorem dX1_leastSet_23 : decode cX1_leastSet 23 = .ok (.ixor, 1) := by decide +kernel
theorem dX1_leastSet_24 : decode cX1_leastSet 24 = .ok (.iand, 1) := by decide +kernel
theorem dX1_leastSet_25 : decode cX1_leastSet 25 = .ok (.baload, 1) := by decide +kernel
theorem dX1_leastSet_26 : decode cX1_leastSet 26 = .ok (.ifCond .ne 19, 3) := by decide +kernel
theorem dX1_leastSet_29 : decode cX1_leastSet 29 = .ok (.iload_n 1, 1) := by decide +kernel
theorem dX1_leastSet_30 : decode cX1_leastSet 30 = .ok (.bipush (-5), 2) := by decide +kernel
theorem dX1_leastSet_32 : decode cX1_leastSet 32 = .ok (.if_icmp .eq 11, 3) := by decide +kernel
theorem dX1_leastSet_35 : decode cX1_leastSet 35 = .ok (.iload_n 2, 1) := by decide +kernel
theorem dX1_leastSet_36 : decode cX1_leastSet 36 = .ok (.iload_n 1, 1) := by decide +kernel
theorem dX1_leastSet_37 : decode cX1_leastSet 37 = .ok (.invokestatic 19, 3) := by decide +kernel
theorem dX1_leastSet_40 : decode cX1_leastSet 40 = .ok (.ifCond .eq 5, 3) := by decide +kernel
theorem dX1_leastSet_43 : decode cX1_leastSet 43 = .ok (.iload_n 2, 1) := by decide +kernel
theorem dX1_leastSet_44 : decode cX1_leastSet 44 = .ok (.istore_n 1, 1) := by decide +kernel
theorem dX1_leastSet_45 : decode cX1_leastSet 45 = .ok (.iinc 2 1, 3) := by decide +kernel
theorem dX1_leastSet_48 : decode cX1_leastSet 48 = .ok (.goto (-43), 3) := by decide +kernel
theorem dX1_leastSet_51 : decode cX1_leastSet 51 = .ok (.iload_n 1, 1) := by decide +kernel
theorem dX1_leastSet_52 : decode cX1_leastSet 52 = .ok (.ireturn, 1) := by decide +kernel
theorem dX1_isLess_0 : decode cX1_isLess 0 = .ok (.iload_n 0, 1) := by decide +kernel
theorem dX1_isLess_1 : decode cX1_isLess 1 = .ok (.invokestatic 23, 3) := by decide +kernel
theorem dX1_isLess_4 : decode cX1_isLess 4 = .ok (.iload_n 1, 1) := by decide +kernel
theorem dX1_isLess_5 : decode cX1_isLess 5 = .ok (.invokestatic 23, 3) := by decide +kernel
theorem dX1_isLess_8 : decode cX1_isLess 8 = .ok (.invokestatic 29, 3) := by decide +kernel
theorem dX1_isLess_11 : decode cX1_isLess 11 = .ok (.istore_n 2, 1) := by decide +kernel
theorem dX1_isLess_12 : decode cX1_isLess 12 = .ok (.iload_n 0, 1) := by decide +kernel
theorem dX1_isLess_13 : decode cX1_isLess 13 = .ok (.iload_n 1, 1) := by decide +kernel
theorem dX1_isLess_14 : decode cX1_isLess 14 = .ok (.ixor, 1) := by decide +kernel
theorem dX1_isLess_15 : decode cX1_isLess 15 = .ok (.istore_n 3, 1) := by decide +kernel
theorem dX1_isLess_16 : decode cX1_isLess 16 = .ok (.iload_n 2, 1) := by decide +kernel
theorem dX1_isLess_17 : decode cX1_isLess 17 = .ok (.ifCond .lt 16, 3) := by decide +kernel
theorem dX1_isLess_20 : decode cX1_isLess 20 = .ok (.iload_n 2, 1) := by decide +kernel
theorem dX1_isLess_21 : decode cX1_isLess 21 = .ok (.ifCond .ne 16, 3) := by decide +kernel
theorem dX1_isLess_24 : decode cX1_isLess 24 = .ok (.iload_n 0, 1) := by decide +kernel
theorem dX1_isLess_25 : decode cX1_isLess 25 = .ok (.iload_n 3, 1) := by decide +kernel
theorem dX1_isLess_26 : decode cX1_isLess 26 = .ok (.iand, 1) := by decide +kernel
theorem dX1_isLess_27 : decode cX1_isLess 27 = .ok (.iload_n 3, 1) := by decide +kernel
theorem dX1_isLess_28 : decode cX1_isLess 28 = .ok (.ineg, 1) := by decide +kernel
theorem dX1_isLess_29 : decode cX1_isLess 29 = .ok (.iand, 1) := by decide +kernel
theorem dX1_isLess_30 : decode cX1_isLess 30 = .ok (.ifCond .eq 7, 3) := by decide +kernel
theorem dX1_isLess_33 : decode cX1_isLess 33 = .ok (.iconst 1, 1) := by decide +kernel
theorem dX1_isLess_34 : decode cX1_isLess 34 = .ok (.goto 4, 3) := by decide +kernel
theorem dX1_isLess_37 : decode cX1_isLess 37 = .ok (.iconst 0, 1) := by decide +kernel
theorem dX1_isLess_38 : decode cX1_isLess 38 = .ok (.ireturn, 1) := by decide +kernel
theorem dX2_init_0 : decode cX2_init 0 = .ok (.aload_n 0, 1) := by decide +kernel
theorem dX2_init_1 : decode cX2_init 1 = .ok (.invokespecial 1, 3) := by decide +kernel
theorem dX2_init_4 : decode cX2_init 4 = .ok (.aload_n 0, 1) := by decide +kernel
theorem dX2_init_5 : decode cX2_init 5 = .ok (.iconst 0, 1) := by decide +kernel
theorem dX2_init_6 : decode cX2_init 6 = .ok (.putfield 7, 3) := by decide +kernel
theorem dX2_init_9 : decode cX2_init 9 = .ok (.aload_n 0, 1) := by decide +kernel
theorem dX2_init_10 : decode cX2_init 10 = .ok (.iconst 0, 1) := by decide +kernel
theorem dX2_init_11 : decode cX2_init 11 = .ok (.putfield 13, 3) := by decide +kernel
theorem dX2_init_14 : decode cX2_init 14 = .ok (.return_, 1) := by decide +kernel
theorem dX2_begin_0 : decode cX2_begin 0 = .ok (.aload_n 0, 1) := by decide +kernel
theorem dX2_begin_1 : decode cX2_begin 1 = .ok (.iconst 0, 1) := by decide +kernel
theorem dX2_begin_2 : decode cX2_begin 2 = .ok (.putfield 7, 3) := by decide +kernel
theorem dX2_begin_5 : decode cX2_begin 5 = .ok (.aload_n 0, 1) := by decide +kernel
theorem dX2_begin_6 : decode cX2_begin 6 = .ok (.iload_n 1, 1) := by decide +kernel
theorem dX2_begin_7 : decode cX2_begin 7 = .ok (.putfield 13, 3) := by decide +kernel
theorem dX2_begin_10 : decode cX2_begin 10 = .ok (.return_, 1) := by decide +kernel
theorem dX2_isHopeless_0 : decode cX2_isHopeless 0 = .ok (.iload_n 3, 1) := by decide +kernel
theorem dX2_isHopeless_1 : decode cX2_isHopeless 1 = .ok (.ifCond .ne 11, 3) := by decide +kernel
theorem dX2_isHopeless_4 : decode cX2_isHopeless 4 = .ok (.iload_n 1, 1) := by decide +kernel
theorem dX2_isHopeless_5 : decode cX2_isHopeless 5 = .ok (.aload_n 0, 1) := by decide +kernel
theorem dX2_isHopeless_6 : decode cX2_isHopeless 6 = .ok (.getfield 13, 3) := by decide +kernel
theorem dX2_isHopeless_9 : decode cX2_isHopeless 9 = .ok (.if_icmp .le 7, 3) := by decide +kernel
theorem dX2_isHopeless_12 : decode cX2_isHopeless 12 = .ok (.iconst 1, 1) := by decide +kernel
theorem dX2_isHopeless_13 : decode cX2_isHopeless 13 = .ok (.goto 4, 3) := by decide +kernel
theorem dX2_isHopeless_16 : decode cX2_isHopeless 16 = .ok (.iconst 0, 1) := by decide +kernel
theorem dX2_isHopeless_17 : decode cX2_isHopeless 17 = .ok (.ireturn, 1) := by decide +kernel
theorem dX2_reach_0 : decode cX2_reach 0 = .ok (.aload_n 0, 1) := by decide +kernel
theorem dX2_reach_1 : decode cX2_reach 1 = .ok (.dup, 1) := by decide +kernel
theorem dX2_reach_2 : decode cX2_reach 2 = .ok (.getfield 7, 3) := by decide +kernel
theorem dX2_reach_5 : decode cX2_reach 5 = .ok (.iconst 1, 1) := by decide +kernel
theorem dX2_reach_6 : decode cX2_reach 6 = .ok (.iadd, 1) := by decide +kernel
theorem dX2_reach_7 : decode cX2_reach 7 = .ok (.putfield 7, 3) := by decide +kernel
theorem dX2_reach_10 : decode cX2_reach 10 = .ok (.return_, 1) := by decide +kernel
theorem dX3_init_0 : decode cX3_init 0 = .ok (.aload_n 0, 1) := by decide +kernel
theorem dX3_init_1 : decode cX3_init 1 = .ok (.invokespecial 3, 3) := by decide +kernel
theorem dX3_init_4 : decode cX3_init 4 = .ok (.aload_n 0, 1) := by decide +kernel
theorem dX3_init_5 : decode cX3_init 5 = .ok (.iconst 0, 1) := by decide +kernel
theorem dX3_init_6 : decode cX3_init 6 = .ok (.putfield 9, 3) := by decide +kernel
theorem dX3_init_9 : decode cX3_init 9 = .ok (.aload_n 0, 1) := by decide +kernel
theorem dX3_init_10 : decode cX3_init 10 = .ok (.bipush 6, 2) := by decide +kernel
theorem dX3_init_12 : decode cX3_init 12 = .ok (.newarray .int, 2) := by decide +kernel
theorem dX3_init_14 : decode cX3_init 14 = .ok (.putfield 15, 3) := by decide +kernel
theorem dX3_init_17 : decode cX3_init 17 = .ok (.aload_n 0, 1) := by decide +kernel
theorem dX3_init_18 : decode cX3_init 18 = .ok (.bipush 6, 2) := by decide +kernel
theorem dX3_init_20 : decode cX3_init 20 = .ok (.newarray .int, 2) := by decide +kernel
theorem dX3_init_22 : decode cX3_init 22 = .ok (.putfield 19, 3) := by decide +kernel
theorem dX3_init_25 : decode cX3_init 25 = .ok (.aload_n 0, 1) := by decide +kernel
theorem dX3_init_26 : decode cX3_init 26 = .ok (.bipush 6, 2) := by decide +kernel
theorem dX3_init_28 : decode cX3_init 28 = .ok (.newarray .int, 2) := by decide +kernel
theorem dX3_init_30 : decode cX3_init 30 = .ok (.putfield 22, 3) := by decide +kernel
theorem dX3_init_33 : decode cX3_init 33 = .ok (.aload_n 0, 1) := by decide +kernel
theorem dX3_init_34 : decode cX3_init 34 = .ok (.bipush 6, 2) := by decide +kernel
theorem dX3_init_36 : decode cX3_init 36 = .ok (.newarray .int, 2) := by decide +kernel
theorem dX3_init_38 : decode cX3_init 38 = .ok (.putfield 25, 3) := by decide +kernel
theorem dX3_init_41 : decode cX3_init 41 = .ok (.aload_n 0, 1) := by decide +kernel
theorem dX3_init_42 : decode cX3_init 42 = .ok (.bipush 6, 2) := by decide +kernel
theorem dX3_init_44 : decode cX3_init 44 = .ok (.newarray .int, 2) := by decide +kernel
theorem dX3_init_46 : decode cX3_init 46 = .ok (.putfield 28, 3) := by decide +kernel
theorem dX3_init_49 : decode cX3_init 49 = .ok (.aload_n 0, 1) := by decide +kernel
theorem dX3_init_50 : decode cX3_init 50 = .ok (.bipush 6, 2) := by decide +kernel
theorem dX3_init_52 : decode cX3_init 52 = .ok (.newarray .int, 2) := by decide +kernel
theorem dX3_init_54 : decode cX3_init 54 = .ok (.putfield 31, 3) := by decide +kernel
theorem dX3_init_57 : decode cX3_init 57 = .ok (.aload_n 0, 1) := by decide +kernel
theorem dX3_init_58 : decode cX3_init 58 = .ok (.bipush 6, 2) := by decide +kernel
theorem dX3_init_60 : decode cX3_init 60 = .ok (.bipush 6, 2) := by decide +kernel
theorem dX3_init_62 : decode cX3_init 62 = .ok (.multianewarray 34 2, 4) := by decide +kernel
theorem dX3_init_66 : decode cX3_init 66 = .ok (.putfield 36, 3) := by decide +kernel
theorem dX3_init_69 : decode cX3_init 69 = .ok (.aload_n 0, 1) := by decide +kernel
theorem dX3_init_70 : decode cX3_init 70 = .ok (.iconst 4, 1) := by decide +kernel
theorem dX3_init_71 : decode cX3_init 71 = .ok (.newarray .int, 2) := by decide +kernel
theorem dX3_init_73 : decode cX3_init 73 = .ok (.putfield 39, 3) := by decide +kernel
theorem dX3_init_76 : decode cX3_init 76 = .ok (.iconst 0, 1) := by decide +kernel
theorem dX3_init_77 : decode cX3_init 77 = .ok (.istore_n 1, 1) := by decide +kernel
theorem dX3_init_78 : decode cX3_init 78 = .ok (.iload_n 1, 1) := by decide +kernel
theorem dX3_init_79 : decode cX3_init 79 = .ok (.iconst 4, 1) := by decide +kernel
theorem dX3_init_80 : decode cX3_init 80 = .ok (.if_icmp .ge 17, 3) := by decide +kernel
theorem dX3_init_83 : decode cX3_init 83 = .ok (.aload_n 0, 1) := by decide +kernel
theorem dX3_init_84 : decode cX3_init 84 = .ok (.getfield 39, 3) := by decide +kernel
theorem dX3_init_87 : decode cX3_init 87 = .ok (.iload_n 1, 1) := by decide +kernel
theorem dX3_init_88 : decode cX3_init 88 = .ok (.bipush 6, 2) := by decide +kernel
theorem dX3_init_90 : decode cX3_init 90 = .ok (.iastore, 1) := by decide +kernel
theorem dX3_init_91 : decode cX3_init 91 = .ok (.iinc 1 1, 3) := by decide +kernel
theorem dX3_init_94 : decode cX3_init 94 = .ok (.goto (-16), 3) := by decide +kernel
theorem dX3_init_97 : decode cX3_init 97 = .ok (.return_, 1) := by decide +kernel
theorem dX3_add_0 : decode cX3_add 0 = .ok (.aload_n 0, 1) := by decide +kernel
theorem dX3_add_1 : decode cX3_add 1 = .ok (.getfield 9, 3) := by decide +kernel
theorem dX3_add_4 : decode cX3_add 4 = .ok (.istore 4, 2) := by decide +kernel
theorem dX3_add_6 : decode cX3_add 6 = .ok (.aload_n 0, 1) := by decide +kernel
theorem dX3_add_7 : decode cX3_add 7 = .ok (.getfield 15, 3) := by decide +kernel
theorem dX3_add_10 : decode cX3_add 10 = .ok (.iload 4, 2) := by decide +kernel
theorem dX3_add_12 : decode cX3_add 12 = .ok (.iload_n 1, 1) := by decide +kernel
theorem dX3_add_13 : decode cX3_add 13 = .ok (.iastore, 1) := by decide +kernel
theorem dX3_add_14 : decode cX3_add 14 = .ok (.aload_n 0, 1) := by decide +kernel
theorem dX3_add_15 : decode cX3_add 15 = .ok (.getfield 19, 3) := by decide +kernel
theorem dX3_add_18 : decode cX3_add 18 = .ok (.iload 4, 2) := by decide +kernel
theorem dX3_add_20 : decode cX3_add 20 = .ok (.iload_n 2, 1) := by decide +kernel
theorem dX3_add_21 : decode cX3_add 21 = .ok (.iastore, 1) := by decide +kernel
theorem dX3_add_22 : decode cX3_add 22 = .ok (.aload_n 0, 1) := by decide +kernel
theorem dX3_add_23 : decode cX3_add 23 = .ok (.getfield 22, 3) := by decide +kernel
theorem dX3_add_26 : decode cX3_add 26 = .ok (.iload 4, 2) := by decide +kernel
theorem dX3_add_28 : decode cX3_add 28 = .ok (.iload_n 3, 1) := by decide +kernel
theorem dX3_add_29 : decode cX3_add 29 = .ok (.iastore, 1) := by decide +kernel
theorem dX3_add_30 : decode cX3_add 30 = .ok (.aload_n 0, 1) := by decide +kernel
theorem dX3_add_31 : decode cX3_add 31 = .ok (.getfield 25, 3) := by decide +kernel
theorem dX3_add_34 : decode cX3_add 34 = .ok (.iload 4, 2) := by decide +kernel
theorem dX3_add_36 : decode cX3_add 36 = .ok (.iconst 1, 1) := by decide +kernel
theorem dX3_add_37 : decode cX3_add 37 = .ok (.iastore, 1) := by decide +kernel
theorem dX3_add_38 : decode cX3_add 38 = .ok (.aload_n 0, 1) := by decide +kernel
theorem dX3_add_39 : decode cX3_add 39 = .ok (.getfield 31, 3) := by decide +kernel
theorem dX3_add_42 : decode cX3_add 42 = .ok (.iload 4, 2) := by decide +kernel
theorem dX3_add_44 : decode cX3_add 44 = .ok (.bipush (-5), 2) := by decide +kernel
theorem dX3_add_46 : decode cX3_add 46 = .ok (.iastore, 1) := by decide +kernel
theorem dX3_add_47 : decode cX3_add 47 = .ok (.aload_n 0, 1) := by decide +kernel
theorem dX3_add_48 : decode cX3_add 48 = .ok (.dup, 1) := by decide +kernel
theorem dX3_add_49 : decode cX3_add 49 = .ok (.getfield 9, 3) := by decide +kernel
theorem dX3_add_52 : decode cX3_add 52 = .ok (.iconst 1, 1) := by decide +kernel
theorem dX3_add_53 : decode cX3_add 53 = .ok (.iadd, 1) := by decide +kernel
theorem dX3_add_54 : decode cX3_add 54 = .ok (.putfield 9, 3) := by decide +kernel
theorem dX3_add_57 : decode cX3_add 57 = .ok (.iload 4, 2) := by decide +kernel
theorem dX3_add_59 : decode cX3_add 59 = .ok (.ireturn, 1) := by decide +kernel
theorem dX3_has_0 : decode cX3_has 0 = .ok (.iload_n 1, 1) := by decide +kernel
theorem dX3_has_1 : decode cX3_has 1 = .ok (.ifCond .lt 15, 3) := by decide +kernel
theorem dX3_has_4 : decode cX3_has 4 = .ok (.iload_n 1, 1) := by decide +kernel
theorem dX3_has_5 : decode cX3_has 5 = .ok (.aload_n 0, 1) := by decide +kernel
theorem dX3_has_6 : decode cX3_has 6 = .ok (.getfield 9, 3) := by decide +kernel
theorem dX3_has_9 : decode cX3_has 9 = .ok (.if_icmp .ge 7, 3) := by decide +kernel
theorem dX3_has_12 : decode cX3_has 12 = .ok (.iconst 1, 1) := by decide +kernel
theorem dX3_has_13 : decode cX3_has 13 = .ok (.goto 4, 3) := by decide +kernel
theorem dX3_has_16 : decode cX3_has 16 = .ok (.iconst 0, 1) := by decide +kernel
theorem dX3_has_17 : decode cX3_has 17 = .ok (.ireturn, 1) := by decide +kernel
theorem dX3_mayHave_0 : decode cX3_mayHave 0 = .ok (.iload_n 2, 1) := by decide +kernel
theorem dX3_mayHave_1 : decode cX3_mayHave 1 = .ok (.aload_n 0, 1) := by decide +kernel
theorem dX3_mayHave_2 : decode cX3_mayHave 2 = .ok (.getfield 15, 3) := by decide +kernel
theorem dX3_mayHave_5 : decode cX3_mayHave 5 = .ok (.iload_n 1, 1) := by decide +kernel
theorem dX3_mayHave_6 : decode cX3_mayHave 6 = .ok (.iaload, 1) := by decide +kernel
theorem dX3_mayHave_7 : decode cX3_mayHave 7 = .ok (.if_icmp .lt 17, 3) := by decide +kernel
theorem dX3_mayHave_10 : decode cX3_mayHave 10 = .ok (.iload_n 2, 1) := by decide +kernel
theorem dX3_mayHave_11 : decode cX3_mayHave 11 = .ok (.aload_n 0, 1) := by decide +kernel
theorem dX3_mayHave_12 : decode cX3_mayHave 12 = .ok (.getfield 19, 3) := by decide +kernel
theorem dX3_mayHave_15 : decode cX3_mayHave 15 = .ok (.iload_n 1, 1) := by decide +kernel
theorem dX3_mayHave_16 : decode cX3_mayHave 16 = .ok (.iaload, 1) := by decide +kernel
theorem dX3_mayHave_17 : decode cX3_mayHave 17 = .ok (.if_icmp .gt 7, 3) := by decide +kernel
theorem dX3_mayHave_20 : decode cX3_mayHave 20 = .ok (.iconst 1, 1) := by decide +kernel
theorem dX3_mayHave_21 : decode cX3_mayHave 21 = .ok (.goto 4, 3) := by decide +kernel
theorem dX3_mayHave_24 : decode cX3_mayHave 24 = .ok (.iconst 0, 1) := by decide +kernel
theorem dX3_mayHave_25 : decode cX3_mayHave 25 = .ok (.ireturn, 1) := by decide +kernel
theorem dX3_pinLets_0 : decode cX3_pinLets 0 = .ok (.aload_n 0, 1) := by decide +kernel
theorem dX3_pinLets_1 : decode cX3_pinLets 1 = .ok (.getfield 31, 3) := by decide +kernel
theorem dX3_pinLets_4 : decode cX3_pinLets 4 = .ok (.iload_n 1, 1) := by decide +kernel
theorem dX3_pinLets_5 : decode cX3_pinLets 5 = .ok (.iaload, 1) := by decide +kernel
theorem dX3_pinLets_6 : decode cX3_pinLets 6 = .ok (.bipush (-5), 2) := by decide +kernel
theorem dX3_pinLets_8 : decode cX3_pinLets 8 = .ok (.if_icmp .eq 13, 3) := by decide +kernel
theorem dX3_pinLets_11 : decode cX3_pinLets 11 = .ok (.aload_n 0, 1) := by decide +kernel
theorem dX3_pinLets_12 : decode cX3_pinLets 12 = .ok (.getfield 31, 3) := by decide +kernel
theorem dX3_pinLets_15 : decode cX3_pinLets 15 = .ok (.iload_n 1, 1) := by decide +kernel
theorem dX3_pinLets_16 : decode cX3_pinLets 16 = .ok (.iaload, 1) := by decide +kernel
theorem dX3_pinLets_17 : decode cX3_pinLets 17 = .ok (.iload_n 2, 1) := by decide +kernel
theorem dX3_pinLets_18 : decode cX3_pinLets 18 = .ok (.if_icmp .ne 7, 3) := by decide +kernel
theorem dX3_pinLets_21 : decode cX3_pinLets 21 = .ok (.iconst 1, 1) := by decide +kernel
theorem dX3_pinLets_22 : decode cX3_pinLets 22 = .ok (.goto 4, 3) := by decide +kernel
theorem dX3_pinLets_25 : decode cX3_pinLets 25 = .ok (.iconst 0, 1) := by decide +kernel
theorem dX3_pinLets_26 : decode cX3_pinLets 26 = .ok (.ireturn, 1) := by decide +kernel
theorem dX4_init_0 : decode cX4_init 0 = .ok (.aload_n 0, 1) := by decide +kernel
theorem dX4_init_1 : decode cX4_init 1 = .ok (.invokespecial 1, 3) := by decide +kernel
theorem dX4_init_4 : decode cX4_init 4 = .ok (.return_, 1) := by decide +kernel
theorem dX5_init_0 : decode cX5_init 0 = .ok (.aload_n 0, 1) := by decide +kernel
theorem dX5_init_1 : decode cX5_init 1 = .ok (.invokespecial 3, 3) := by decide +kernel
theorem dX5_init_4 : decode cX5_init 4 = .ok (.aload_n 0, 1) := by decide +kernel
theorem dX5_init_5 : decode cX5_init 5 = .ok (.iconst 0, 1) := by decide +kernel
theorem dX5_init_6 : decode cX5_init 6 = .ok (.putfield 9, 3) := by decide +kernel
theorem dX5_init_9 : decode cX5_init 9 = .ok (.aload_n 0, 1) := by decide +kernel
theorem dX5_init_10 : decode cX5_init 10 = .ok (.bipush (-5), 2) := by decide +kernel
theorem dX5_init_12 : decode cX5_init 12 = .ok (.putfield 15, 3) := by decide +kernel
theorem dX5_init_15 : decode cX5_init 15 = .ok (.aload_n 0, 1) := by decide +kernel
theorem dX5_init_16 : decode cX5_init 16 = .ok (.iconst 3, 1) := by decide +kernel
theorem dX5_init_17 : decode cX5_init 17 = .ok (.bipush 6, 2) := by decide +kernel
theorem dX5_init_19 : decode cX5_init 19 = .ok (.multianewarray 18 2, 4) := by decide +kernel
theorem dX5_init_23 : decode cX5_init 23 = .ok (.putfield 20, 3) := by decide +kernel
theorem dX5_init_26 : decode cX5_init 26 = .ok (.aload_n 0, 1) := by decide +kernel
theorem dX5_init_27 : decode cX5_init 27 = .ok (.iconst 3, 1) := by decide +kernel
theorem dX5_init_28 : decode cX5_init 28 = .ok (.bipush 6, 2) := by decide +kernel
theorem dX5_init_30 : decode cX5_init 30 = .ok (.multianewarray 18 2, 4) := by decide +kernel
theorem dX5_init_34 : decode cX5_init 34 = .ok (.putfield 23, 3) := by decide +kernel
theorem dX5_init_37 : decode cX5_init 37 = .ok (.return_, 1) := by decide +kernel
theorem dX5_add_0 : decode cX5_add 0 = .ok (.aload_n 1, 1) := by decide +kernel
theorem dX5_add_1 : decode cX5_add 1 = .ok (.iconst 0, 1) := by decide +kernel
theorem dX5_add_2 : decode cX5_add 2 = .ok (.aload_n 0, 1) := by decide +kernel
theorem dX5_add_3 : decode cX5_add 3 = .ok (.getfield 20, 3) := by decide +kernel
theorem dX5_add_6 : decode cX5_add 6 = .ok (.aload_n 0, 1) := by decide +kernel
theorem dX5_add_7 : decode cX5_add 7 = .ok (.getfield 9, 3) := by decide +kernel
theorem dX5_add_10 : decode cX5_add 10 = .ok (.aaload, 1) := by decide +kernel
theorem dX5_add_11 : decode cX5_add 11 = .ok (.iconst 0, 1) := by decide +kernel
theorem dX5_add_12 : decode cX5_add 12 = .ok (.bipush 6, 2) := by decide +kernel
theorem dX5_add_14 : decode cX5_add 14 = .ok (.invokestatic 26, 3) := by decide +kernel
theorem dX5_add_17 : decode cX5_add 17 = .ok (.aload_n 2, 1) := by decide +kernel
theorem dX5_add_18 : decode cX5_add 18 = .ok (.iconst 0, 1) := by decide +kernel
theorem dX5_add_19 : decode cX5_add 19 = .ok (.aload_n 0, 1) := by decide +kernel
theorem dX5_add_20 : decode cX5_add 20 = .ok (.getfield 23, 3) := by decide +kernel
theorem dX5_add_23 : decode cX5_add 23 = .ok (.aload_n 0, 1) := by decide +kernel
theorem dX5_add_24 : decode cX5_add 24 = .ok (.getfield 9, 3) := by decide +kernel
theorem dX5_add_27 : decode cX5_add 27 = .ok (.aaload, 1) := by decide +kernel
theorem dX5_add_28 : decode cX5_add 28 = .ok (.iconst 0, 1) := by decide +kernel
theorem dX5_add_29 : decode cX5_add 29 = .ok (.bipush 6, 2) := by decide +kernel
theorem dX5_add_31 : decode cX5_add 31 = .ok (.invokestatic 26, 3) := by decide +kernel
theorem dX5_add_34 : decode cX5_add 34 = .ok (.aload_n 0, 1) := by decide +kernel
theorem dX5_add_35 : decode cX5_add 35 = .ok (.aload_n 0, 1) := by decide +kernel
theorem dX5_add_36 : decode cX5_add 36 = .ok (.getfield 9, 3) := by decide +kernel
theorem dX5_add_39 : decode cX5_add 39 = .ok (.putfield 15, 3) := by decide +kernel
theorem dX5_add_42 : decode cX5_add 42 = .ok (.aload_n 0, 1) := by decide +kernel
theorem dX5_add_43 : decode cX5_add 43 = .ok (.dup, 1) := by decide +kernel
theorem dX5_add_44 : decode cX5_add 44 = .ok (.getfield 9, 3) := by decide +kernel
theorem dX5_add_47 : decode cX5_add 47 = .ok (.iconst 1, 1) := by decide +kernel
theorem dX5_add_48 : decode cX5_add 48 = .ok (.iadd, 1) := by decide +kernel
theorem dX5_add_49 : decode cX5_add 49 = .ok (.putfield 9, 3) := by decide +kernel
theorem dX5_add_52 : decode cX5_add 52 = .ok (.aload_n 0, 1) := by decide +kernel
theorem dX5_add_53 : decode cX5_add 53 = .ok (.getfield 15, 3) := by decide +kernel
theorem dX5_add_56 : decode cX5_add 56 = .ok (.ireturn, 1) := by decide +kernel
theorem dX5_has_0 : decode cX5_has 0 = .ok (.iload_n 1, 1) := by decide +kernel
theorem dX5_has_1 : decode cX5_has 1 = .ok (.ifCond .lt 15, 3) := by decide +kernel
theorem dX5_has_4 : decode cX5_has 4 = .ok (.iload_n 1, 1) := by decide +kernel
theorem dX5_has_5 : decode cX5_has 5 = .ok (.aload_n 0, 1) := by decide +kernel
theorem dX5_has_6 : decode cX5_has 6 = .ok (.getfield 9, 3) := by decide +kernel
theorem dX5_has_9 : decode cX5_has 9 = .ok (.if_icmp .ge 7, 3) := by decide +kernel
theorem dX5_has_12 : decode cX5_has 12 = .ok (.iconst 1, 1) := by decide +kernel
theorem dX5_has_13 : decode cX5_has 13 = .ok (.goto 4, 3) := by decide +kernel
theorem dX5_has_16 : decode cX5_has 16 = .ok (.iconst 0, 1) := by decide +kernel
theorem dX5_has_17 : decode cX5_has 17 = .ok (.ireturn, 1) := by decide +kernel
theorem dX5_hasBase_0 : decode cX5_hasBase 0 = .ok (.aload_n 0, 1) := by decide +kernel
theorem dX5_hasBase_1 : decode cX5_hasBase 1 = .ok (.getfield 15, 3) := by decide +kernel
theorem dX5_hasBase_4 : decode cX5_hasBase 4 = .ok (.bipush (-5), 2) := by decide +kernel
theorem dX5_hasBase_6 : decode cX5_hasBase 6 = .ok (.if_icmp .eq 7, 3) := by decide +kernel
theorem dX5_hasBase_9 : decode cX5_hasBase 9 = .ok (.iconst 1, 1) := by decide +kernel
theorem dX5_hasBase_10 : decode cX5_hasBase 10 = .ok (.goto 4, 3) := by decide +kernel
theorem dX5_hasBase_13 : decode cX5_hasBase 13 = .ok (.iconst 0, 1) := by decide +kernel
theorem dX5_hasBase_14 : decode cX5_hasBase 14 = .ok (.ireturn, 1) := by decide +kernel
theorem dX5_valueThen_0 : decode cX5_valueThen 0 = .ok (.aload_n 0, 1) := by decide +kernel
theorem dX5_valueThen_1 : decode cX5_valueThen 1 = .ok (.invokevirtual 32, 3) := by decide +kernel
theorem dX5_valueThen_4 : decode cX5_valueThen 4 = .ok (.ifCond .eq 17, 3) := by decide +kernel
theorem dX5_valueThen_7 : decode cX5_valueThen 7 = .ok (.aload_n 0, 1) := by decide +kernel
theorem dX5_valueThen_8 : decode cX5_valueThen 8 = .ok (.getfield 20, 3) := by decide +kernel
theorem dX5_valueThen_11 : decode cX5_valueThen 11 = .ok (.aload_n 0, 1) := by decide +kernel
theorem dX5_valueThen_12 : decode cX5_valueThen 12 = .ok (.getfield 15, 3) := by decide +kernel
theorem dX5_valueThen_15 : decode cX5_valueThen 15 = .ok (.aaload, 1) := by decide +kernel
theorem dX5_valueThen_16 : decode cX5_valueThen 16 = .ok (.iload_n 1, 1) := by decide +kernel
theorem dX5_valueThen_17 : decode cX5_valueThen 17 = .ok (.iaload, 1) := by decide +kernel
theorem dX5_valueThen_18 : decode cX5_valueThen 18 = .ok (.goto 5, 3) := by decide +kernel
theorem dX5_valueThen_21 : decode cX5_valueThen 21 = .ok (.bipush (-5), 2) := by decide +kernel
theorem dX5_valueThen_23 : decode cX5_valueThen 23 = .ok (.ireturn, 1) := by decide +kernel
theorem dX5_moves_0 : decode cX5_moves 0 = .ok (.aload_n 0, 1) := by decide +kernel
theorem dX5_moves_1 : decode cX5_moves 1 = .ok (.invokevirtual 32, 3) := by decide +kernel
theorem dX5_moves_4 : decode cX5_moves 4 = .ok (.ifCond .eq 22, 3) := by decide +kernel
theorem dX5_moves_7 : decode cX5_moves 7 = .ok (.aload_n 0, 1) := by decide +kernel
theorem dX5_moves_8 : decode cX5_moves 8 = .ok (.getfield 20, 3) := by decide +kernel
theorem dX5_moves_11 : decode cX5_moves 11 = .ok (.aload_n 0, 1) := by decide +kernel
theorem dX5_moves_12 : decode cX5_moves 12 = .ok (.getfield 15, 3) := by decide +kernel
theorem dX5_moves_15 : decode cX5_moves 15 = .ok (.aaload, 1) := by decide +kernel
theorem dX5_moves_16 : decode cX5_moves 16 = .ok (.iload_n 1, 1) := by decide +kernel
theorem dX5_moves_17 : decode cX5_moves 17 = .ok (.iaload, 1) := by decide +kernel
theorem dX5_moves_18 : decode cX5_moves 18 = .ok (.iload_n 2, 1) := by decide +kernel
theorem dX5_moves_19 : decode cX5_moves 19 = .ok (.if_icmp .eq 7, 3) := by decide +kernel
theorem dX5_moves_22 : decode cX5_moves 22 = .ok (.iconst 1, 1) := by decide +kernel
theorem dX5_moves_23 : decode cX5_moves 23 = .ok (.goto 4, 3) := by decide +kernel
theorem dX5_moves_26 : decode cX5_moves 26 = .ok (.iconst 0, 1) := by decide +kernel
theorem dX5_moves_27 : decode cX5_moves 27 = .ok (.ireturn, 1) := by decide +kernel
theorem dX5_factThen_0 : decode cX5_factThen 0 = .ok (.aload_n 0, 1) := by decide +kernel
theorem dX5_factThen_1 : decode cX5_factThen 1 = .ok (.invokevirtual 32, 3) := by decide +kernel
theorem dX5_factThen_4 : decode cX5_factThen 4 = .ok (.ifCond .eq 17, 3) := by decide +kernel
theorem dX5_factThen_7 : decode cX5_factThen 7 = .ok (.aload_n 0, 1) := by decide +kernel
theorem dX5_factThen_8 : decode cX5_factThen 8 = .ok (.getfield 23, 3) := by decide +kernel
theorem dX5_factThen_11 : decode cX5_factThen 11 = .ok (.aload_n 0, 1) := by decide +kernel
theorem dX5_factThen_12 : decode cX5_factThen 12 = .ok (.getfield 15, 3) := by decide +kernel
theorem dX5_factThen_15 : decode cX5_factThen 15 = .ok (.aaload, 1) := by decide +kernel
theorem dX5_factThen_16 : decode cX5_factThen 16 = .ok (.iload_n 1, 1) := by decide +kernel
theorem dX5_factThen_17 : decode cX5_factThen 17 = .ok (.iaload, 1) := by decide +kernel
theorem dX5_factThen_18 : decode cX5_factThen 18 = .ok (.goto 5, 3) := by decide +kernel
theorem dX5_factThen_21 : decode cX5_factThen 21 = .ok (.bipush (-5), 2) := by decide +kernel
theorem dX5_factThen_23 : decode cX5_factThen 23 = .ok (.ireturn, 1) := by decide +kernel
theorem dX6_init_0 : decode cX6_init 0 = .ok (.aload_n 0, 1) := by decide +kernel
theorem dX6_init_1 : decode cX6_init 1 = .ok (.invokespecial 3, 3) := by decide +kernel
theorem dX6_init_4 : decode cX6_init 4 = .ok (.aload_n 0, 1) := by decide +kernel
theorem dX6_init_5 : decode cX6_init 5 = .ok (.iconst 0, 1) := by decide +kernel
theorem dX6_init_6 : decode cX6_init 6 = .ok (.putfield 9, 3) := by decide +kernel
theorem dX6_init_9 : decode cX6_init 9 = .ok (.aload_n 0, 1) := by decide +kernel
theorem dX6_init_10 : decode cX6_init 10 = .ok (.bipush 8, 2) := by decide +kernel
theorem dX6_init_12 : decode cX6_init 12 = .ok (.bipush 6, 2) := by decide +kernel
theorem dX6_init_14 : decode cX6_init 14 = .ok (.multianewarray 15 2, 4) := by decide +kernel
theorem dX6_init_18 : decode cX6_init 18 = .ok (.putfield 17, 3) := by decide +kernel
theorem dX6_init_21 : decode cX6_init 21 = .ok (.aload_n 0, 1) := by decide +kernel
theorem dX6_init_22 : decode cX6_init 22 = .ok (.bipush 8, 2) := by decide +kernel
theorem dX6_init_24 : decode cX6_init 24 = .ok (.newarray .int, 2) := by decide +kernel
theorem dX6_init_26 : decode cX6_init 26 = .ok (.putfield 20, 3) := by decide +kernel
theorem dX6_init_29 : decode cX6_init 29 = .ok (.return_, 1) := by decide +kernel
theorem dX6_push_0 : decode cX6_push 0 = .ok (.aload_n 0, 1) := by decide +kernel
theorem dX6_push_1 : decode cX6_push 1 = .ok (.getfield 9, 3) := by decide +kernel
theorem dX6_push_4 : decode cX6_push 4 = .ok (.bipush 8, 2) := by decide +kernel
theorem dX6_push_6 : decode cX6_push 6 = .ok (.if_icmp .ne 7, 3) := by decide +kernel
theorem dX6_push_9 : decode cX6_push 9 = .ok (.aload_n 0, 1) := by decide +kernel
theorem dX6_push_10 : decode cX6_push 10 = .ok (.invokevirtual 24, 3) := by decide +kernel
theorem dX6_push_13 : decode cX6_push 13 = .ok (.aload_n 1, 1) := by decide +kernel
theorem dX6_push_14 : decode cX6_push 14 = .ok (.iconst 0, 1) := by decide +kernel
theorem dX6_push_15 : decode cX6_push 15 = .ok (.aload_n 0, 1) := by decide +kernel
theorem dX6_push_16 : decode cX6_push 16 = .ok (.getfield 17, 3) := by decide +kernel
theorem dX6_push_19 : decode cX6_push 19 = .ok (.aload_n 0, 1) := by decide +kernel
theorem dX6_push_20 : decode cX6_push 20 = .ok (.getfield 9, 3) := by decide +kernel
theorem dX6_push_23 : decode cX6_push 23 = .ok (.aaload, 1) := by decide +kernel
theorem dX6_push_24 : decode cX6_push 24 = .ok (.iconst 0, 1) := by decide +kernel
theorem dX6_push_25 : decode cX6_push 25 = .ok (.bipush 6, 2) := by decide +kernel
theorem dX6_push_27 : decode cX6_push 27 = .ok (.invokestatic 27, 3) := by decide +kernel
theorem dX6_push_30 : decode cX6_push 30 = .ok (.aload_n 0, 1) := by decide +kernel
theorem dX6_push_31 : decode cX6_push 31 = .ok (.getfield 20, 3) := by decide +kernel
theorem dX6_push_34 : decode cX6_push 34 = .ok (.aload_n 0, 1) := by decide +kernel
theorem dX6_push_35 : decode cX6_push 35 = .ok (.getfield 9, 3) := by decide +kernel
theorem dX6_push_38 : decode cX6_push 38 = .ok (.iload_n 2, 1) := by decide +kernel
theorem dX6_push_39 : decode cX6_push 39 = .ok (.iastore, 1) := by decide +kernel
theorem dX6_push_40 : decode cX6_push 40 = .ok (.aload_n 0, 1) := by decide +kernel
theorem dX6_push_41 : decode cX6_push 41 = .ok (.dup, 1) := by decide +kernel
theorem dX6_push_42 : decode cX6_push 42 = .ok (.getfield 9, 3) := by decide +kernel
theorem dX6_push_45 : decode cX6_push 45 = .ok (.iconst 1, 1) := by decide +kernel
theorem dX6_push_46 : decode cX6_push 46 = .ok (.iadd, 1) := by decide +kernel
theorem dX6_push_47 : decode cX6_push 47 = .ok (.putfield 9, 3) := by decide +kernel
theorem dX6_push_50 : decode cX6_push 50 = .ok (.return_, 1) := by decide +kernel
theorem dX6_pop_0 : decode cX6_pop 0 = .ok (.aload_n 0, 1) := by decide +kernel
theorem dX6_pop_1 : decode cX6_pop 1 = .ok (.getfield 9, 3) := by decide +kernel
theorem dX6_pop_4 : decode cX6_pop 4 = .ok (.ifCond .ne 4, 3) := by decide +kernel
theorem dX6_pop_7 : decode cX6_pop 7 = .ok (.return_, 1) := by decide +kernel
theorem dX6_pop_8 : decode cX6_pop 8 = .ok (.aload_n 0, 1) := by decide +kernel
theorem dX6_pop_9 : decode cX6_pop 9 = .ok (.dup, 1) := by decide +kernel
theorem dX6_pop_10 : decode cX6_pop 10 = .ok (.getfield 9, 3) := by decide +kernel
theorem dX6_pop_13 : decode cX6_pop 13 = .ok (.iconst 1, 1) := by decide +kernel
theorem dX6_pop_14 : decode cX6_pop 14 = .ok (.isub, 1) := by decide +kernel
theorem dX6_pop_15 : decode cX6_pop 15 = .ok (.putfield 9, 3) := by decide +kernel
theorem dX6_pop_18 : decode cX6_pop 18 = .ok (.aload_n 0, 1) := by decide +kernel
theorem dX6_pop_19 : decode cX6_pop 19 = .ok (.getfield 17, 3) := by decide +kernel
theorem dX6_pop_22 : decode cX6_pop 22 = .ok (.aload_n 0, 1) := by decide +kernel
theorem dX6_pop_23 : decode cX6_pop 23 = .ok (.getfield 9, 3) := by decide +kernel
theorem dX6_pop_26 : decode cX6_pop 26 = .ok (.aaload, 1) := by decide +kernel
theorem dX6_pop_27 : decode cX6_pop 27 = .ok (.iconst 0, 1) := by decide +kernel
theorem dX6_pop_28 : decode cX6_pop 28 = .ok (.aload_n 1, 1) := by decide +kernel
theorem dX6_pop_29 : decode cX6_pop 29 = .ok (.iconst 0, 1) := by decide +kernel
theorem dX6_pop_30 : decode cX6_pop 30 = .ok (.aload_n 0, 1) := by decide +kernel
theorem dX6_pop_31 : decode cX6_pop 31 = .ok (.getfield 20, 3) := by decide +kernel
theorem dX6_pop_34 : decode cX6_pop 34 = .ok (.aload_n 0, 1) := by decide +kernel
theorem dX6_pop_35 : decode cX6_pop 35 = .ok (.getfield 9, 3) := by decide +kernel
theorem dX6_pop_38 : decode cX6_pop 38 = .ok (.iaload, 1) := by decide +kernel
theorem dX6_pop_39 : decode cX6_pop 39 = .ok (.invokestatic 27, 3) := by decide +kernel
theorem dX6_pop_42 : decode cX6_pop 42 = .ok (.return_, 1) := by decide +kernel
theorem dX6_forgetOldest_0 : decode cX6_forgetOldest 0 = .ok (.iconst 1, 1) := by decide +kernel
theorem dX6_forgetOldest_1 : decode cX6_forgetOldest 1 = .ok (.istore_n 1, 1) := by decide +kernel
theorem dX6_forgetOldest_2 : decode cX6_forgetOldest 2 = .ok (.iload_n 1, 1) := by decide +kernel
theorem dX6_forgetOldest_3 : decode cX6_forgetOldest 3 = .ok (.bipush 8, 2) := by decide +kernel
theorem dX6_forgetOldest_5 : decode cX6_forgetOldest 5 = .ok (.if_icmp .ge 44, 3) := by decide +kernel
theorem dX6_forgetOldest_8 : decode cX6_forgetOldest 8 = .ok (.aload_n 0, 1) := by decide +kernel
theorem dX6_forgetOldest_9 : decode cX6_forgetOldest 9 = .ok (.getfield 17, 3) := by decide +kernel
theorem dX6_forgetOldest_12 : decode cX6_forgetOldest 12 = .ok (.iload_n 1, 1) := by decide +kernel
theorem dX6_forgetOldest_13 : decode cX6_forgetOldest 13 = .ok (.aaload, 1) := by decide +kernel
theorem dX6_forgetOldest_14 : decode cX6_forgetOldest 14 = .ok (.iconst 0, 1) := by decide +kernel
theorem dX6_forgetOldest_15 : decode cX6_forgetOldest 15 = .ok (.aload_n 0, 1) := by decide +kernel
theorem dX6_forgetOldest_16 : decode cX6_forgetOldest 16 = .ok (.getfield 17, 3) := by decide +kernel
theorem dX6_forgetOldest_19 : decode cX6_forgetOldest 19 = .ok (.iload_n 1, 1) := by decide +kernel
theorem dX6_forgetOldest_20 : decode cX6_forgetOldest 20 = .ok (.iconst 1, 1) := by decide +kernel
theorem dX6_forgetOldest_21 : decode cX6_forgetOldest 21 = .ok (.isub, 1) := by decide +kernel
theorem dX6_forgetOldest_22 : decode cX6_forgetOldest 22 = .ok (.aaload, 1) := by decide +kernel
theorem dX6_forgetOldest_23 : decode cX6_forgetOldest 23 = .ok (.iconst 0, 1) := by decide +kernel
theorem dX6_forgetOldest_24 : decode cX6_forgetOldest 24 = .ok (.bipush 6, 2) := by decide +kernel
theorem dX6_forgetOldest_26 : decode cX6_forgetOldest 26 = .ok (.invokestatic 27, 3) := by decide +kernel
theorem dX6_forgetOldest_29 : decode cX6_forgetOldest 29 = .ok (.aload_n 0, 1) := by decide +kernel
theorem dX6_forgetOldest_30 : decode cX6_forgetOldest 30 = .ok (.getfield 20, 3) := by decide +kernel
theorem dX6_forgetOldest_33 : decode cX6_forgetOldest 33 = .ok (.iload_n 1, 1) := by decide +kernel
theorem dX6_forgetOldest_34 : decode cX6_forgetOldest 34 = .ok (.iconst 1, 1) := by decide +kernel
theorem dX6_forgetOldest_35 : decode cX6_forgetOldest 35 = .ok (.isub, 1) := by decide +kernel
theorem dX6_forgetOldest_36 : decode cX6_forgetOldest 36 = .ok (.aload_n 0, 1) := by decide +kernel
theorem dX6_forgetOldest_37 : decode cX6_forgetOldest 37 = .ok (.getfield 20, 3) := by decide +kernel
theorem dX6_forgetOldest_40 : decode cX6_forgetOldest 40 = .ok (.iload_n 1, 1) := by decide +kernel
theorem dX6_forgetOldest_41 : decode cX6_forgetOldest 41 = .ok (.iaload, 1) := by decide +kernel
theorem dX6_forgetOldest_42 : decode cX6_forgetOldest 42 = .ok (.iastore, 1) := by decide +kernel
theorem dX6_forgetOldest_43 : decode cX6_forgetOldest 43 = .ok (.iinc 1 1, 3) := by decide +kernel
theorem dX6_forgetOldest_46 : decode cX6_forgetOldest 46 = .ok (.goto (-44), 3) := by decide +kernel
theorem dX6_forgetOldest_49 : decode cX6_forgetOldest 49 = .ok (.aload_n 0, 1) := by decide +kernel
theorem dX6_forgetOldest_50 : decode cX6_forgetOldest 50 = .ok (.bipush 7, 2) := by decide +kernel
theorem dX6_forgetOldest_52 : decode cX6_forgetOldest 52 = .ok (.putfield 9, 3) := by decide +kernel
theorem dX6_forgetOldest_55 : decode cX6_forgetOldest 55 = .ok (.return_, 1) := by decide +kernel
theorem dX7_init_0 : decode cX7_init 0 = .ok (.aload_n 0, 1) := by decide +kernel
theorem dX7_init_1 : decode cX7_init 1 = .ok (.invokespecial 3, 3) := by decide +kernel
theorem dX7_init_4 : decode cX7_init 4 = .ok (.aload_n 0, 1) := by decide +kernel
theorem dX7_init_5 : decode cX7_init 5 = .ok (.iconst 0, 1) := by decide +kernel
theorem dX7_init_6 : decode cX7_init 6 = .ok (.putfield 9, 3) := by decide +kernel
theorem dX7_init_9 : decode cX7_init 9 = .ok (.aload_n 0, 1) := by decide +kernel
theorem dX7_init_10 : decode cX7_init 10 = .ok (.bipush 6, 2) := by decide +kernel
theorem dX7_init_12 : decode cX7_init 12 = .ok (.newarray .int, 2) := by decide +kernel
theorem dX7_init_14 : decode cX7_init 14 = .ok (.putfield 15, 3) := by decide +kernel
theorem dX7_init_17 : decode cX7_init 17 = .ok (.aload_n 0, 1) := by decide +kernel
theorem dX7_init_18 : decode cX7_init 18 = .ok (.bipush 6, 2) := by decide +kernel
theorem dX7_init_20 : decode cX7_init 20 = .ok (.newarray .int, 2) := by decide +kernel
theorem dX7_init_22 : decode cX7_init 22 = .ok (.putfield 19, 3) := by decide +kernel
theorem dX7_init_25 : decode cX7_init 25 = .ok (.aload_n 0, 1) := by decide +kernel
theorem dX7_init_26 : decode cX7_init 26 = .ok (.bipush 6, 2) := by decide +kernel
theorem dX7_init_28 : decode cX7_init 28 = .ok (.newarray .int, 2) := by decide +kernel
theorem dX7_init_30 : decode cX7_init 30 = .ok (.putfield 22, 3) := by decide +kernel
theorem dX7_init_33 : decode cX7_init 33 = .ok (.aload_n 0, 1) := by decide +kernel
theorem dX7_init_34 : decode cX7_init 34 = .ok (.bipush 64, 2) := by decide +kernel
theorem dX7_init_36 : decode cX7_init 36 = .ok (.newarray .int, 2) := by decide +kernel
theorem dX7_init_38 : decode cX7_init 38 = .ok (.putfield 25, 3) := by decide +kernel
theorem dX7_init_41 : decode cX7_init 41 = .ok (.aload_n 0, 1) := by decide +kernel
theorem dX7_init_42 : decode cX7_init 42 = .ok (.bipush 64, 2) := by decide +kernel
theorem dX7_init_44 : decode cX7_init 44 = .ok (.newarray .int, 2) := by decide +kernel
theorem dX7_init_46 : decode cX7_init 46 = .ok (.putfield 28, 3) := by decide +kernel
theorem dX7_init_49 : decode cX7_init 49 = .ok (.aload_n 0, 1) := by decide +kernel
theorem dX7_init_50 : decode cX7_init 50 = .ok (.bipush 64, 2) := by decide +kernel
theorem dX7_init_52 : decode cX7_init 52 = .ok (.newarray .int, 2) := by decide +kernel
theorem dX7_init_54 : decode cX7_init 54 = .ok (.putfield 31, 3) := by decide +kernel
theorem dX7_init_57 : decode cX7_init 57 = .ok (.aload_n 0, 1) := by decide +kernel
theorem dX7_init_58 : decode cX7_init 58 = .ok (.aload_n 1, 1) := by decide +kernel
theorem dX7_init_59 : decode cX7_init 59 = .ok (.putfield 34, 3) := by decide +kernel
theorem dX7_init_62 : decode cX7_init 62 = .ok (.aload_n 0, 1) := by decide +kernel
theorem dX7_init_63 : decode cX7_init 63 = .ok (.aload_n 2, 1) := by decide +kernel
theorem dX7_init_64 : decode cX7_init 64 = .ok (.putfield 38, 3) := by decide +kernel
theorem dX7_init_67 : decode cX7_init 67 = .ok (.aload_n 0, 1) := by decide +kernel
theorem dX7_init_68 : decode cX7_init 68 = .ok (.aload_n 3, 1) := by decide +kernel
theorem dX7_init_69 : decode cX7_init 69 = .ok (.putfield 42, 3) := by decide +kernel
theorem dX7_init_72 : decode cX7_init 72 = .ok (.return_, 1) := by decide +kernel
theorem dX7_find_0 : decode cX7_find 0 = .ok (.iconst 0, 1) := by decide +kernel
theorem dX7_find_1 : decode cX7_find 1 = .ok (.istore_n 3, 1) := by decide +kernel
theorem dX7_find_2 : decode cX7_find 2 = .ok (.iload_n 3, 1) := by decide +kernel
theorem dX7_find_3 : decode cX7_find 3 = .ok (.iload_n 2, 1) := by decide +kernel
theorem dX7_find_4 : decode cX7_find 4 = .ok (.if_icmp .gt 29, 3) := by decide +kernel
theorem dX7_find_7 : decode cX7_find 7 = .ok (.iload_n 3, 1) := by decide +kernel
theorem dX7_find_8 : decode cX7_find 8 = .ok (.iload_n 2, 1) := by decide +kernel
theorem dX7_find_9 : decode cX7_find 9 = .ok (.iconst (-1), 1) := by decide +kernel
theorem dX7_find_10 : decode cX7_find 10 = .ok (.ixor, 1) := by decide +kernel
theorem dX7_find_11 : decode cX7_find 11 = .ok (.iand, 1) := by decide +kernel
theorem dX7_find_12 : decode cX7_find 12 = .ok (.ifCond .ne 15, 3) := by decide +kernel
theorem dX7_find_15 : decode cX7_find 15 = .ok (.aload_n 0, 1) := by decide +kernel
theorem dX7_find_16 : decode cX7_find 16 = .ok (.getfield 25, 3) := by decide +kernel
theorem dX7_find_19 : decode cX7_find 19 = .ok (.iload_n 3, 1) := by decide +kernel
theorem dX7_find_20 : decode cX7_find 20 = .ok (.aload_n 0, 1) := by decide +kernel
theorem dX7_find_21 : decode cX7_find 21 = .ok (.iload_n 3, 1) := by decide +kernel
theorem dX7_find_22 : decode cX7_find 22 = .ok (.aload_n 1, 1) := by decide +kernel
theorem dX7_find_23 : decode cX7_find 23 = .ok (.invokevirtual 46, 3) := by decide +kernel
theorem dX7_find_26 : decode cX7_find 26 = .ok (.iastore, 1) := by decide +kernel
theorem dX7_find_27 : decode cX7_find 27 = .ok (.iinc 3 1, 3) := by decide +kernel
theorem dX7_find_30 : decode cX7_find 30 = .ok (.goto (-28), 3) := by decide +kernel
theorem dX7_find_33 : decode cX7_find 33 = .ok (.aload_n 0, 1) := by decide +kernel
theorem dX7_find_34 : decode cX7_find 34 = .ok (.iload_n 2, 1) := by decide +kernel
theorem dX7_find_35 : decode cX7_find 35 = .ok (.invokevirtual 50, 3) := by decide +kernel
theorem dX7_find_38 : decode cX7_find 38 = .ok (.aload_n 0, 1) := by decide +kernel
theorem dX7_find_39 : decode cX7_find 39 = .ok (.iload_n 2, 1) := by decide +kernel
theorem dX7_find_40 : decode cX7_find 40 = .ok (.invokevirtual 54, 3) := by decide +kernel
theorem dX7_find_43 : decode cX7_find 43 = .ok (.aload_n 0, 1) := by decide +kernel
theorem dX7_find_44 : decode cX7_find 44 = .ok (.iload_n 2, 1) := by decide +kernel
theorem dX7_find_45 : decode cX7_find 45 = .ok (.invokevirtual 57, 3) := by decide +kernel
theorem dX7_find_48 : decode cX7_find 48 = .ok (.return_, 1) := by decide +kernel
theorem dX7_brokenWith_0 : decode cX7_brokenWith 0 = .ok (.iconst 0, 1) := by decide +kernel
theorem dX7_brokenWith_1 : decode cX7_brokenWith 1 = .ok (.istore_n 3, 1) := by decide +kernel
theorem dX7_brokenWith_2 : decode cX7_brokenWith 2 = .ok (.iload_n 3, 1) := by decide +kernel
theorem dX7_brokenWith_3 : decode cX7_brokenWith 3 = .ok (.aload_n 0, 1) := by decide +kernel
theorem dX7_brokenWith_4 : decode cX7_brokenWith 4 = .ok (.getfield 34, 3) := by decide +kernel
theorem dX7_brokenWith_7 : decode cX7_brokenWith 7 = .ok (.getfield 60, 3) := by decide +kernel
theorem dX7_brokenWith_10 : decode cX7_brokenWith 10 = .ok (.if_icmp .ge 38, 3) := by decide +kernel
theorem dX7_brokenWith_13 : decode cX7_brokenWith 13 = .ok (.aload_n 0, 1) := by decide +kernel
theorem dX7_brokenWith_14 : decode cX7_brokenWith 14 = .ok (.getfield 22, 3) := by decide +kernel
theorem dX7_brokenWith_17 : decode cX7_brokenWith 17 = .ok (.iload_n 3, 1) := by decide +kernel
theorem dX7_brokenWith_18 : decode cX7_brokenWith 18 = .ok (.iload_n 1, 1) := by decide +kernel
theorem dX7_brokenWith_19 : decode cX7_brokenWith 19 = .ok (.iload_n 3, 1) := by decide +kernel
theorem dX7_brokenWith_20 : decode cX7_brokenWith 20 = .ok (.ishr, 1) := by decide +kernel
theorem dX7_brokenWith_21 : decode cX7_brokenWith 21 = .ok (.iconst 1, 1) := by decide +kernel
theorem dX7_brokenWith_22 : decode cX7_brokenWith 22 = .ok (.iand, 1) := by decide +kernel
theorem dX7_brokenWith_23 : decode cX7_brokenWith 23 = .ok (.iconst 1, 1) := by decide +kernel
theorem dX7_brokenWith_24 : decode cX7_brokenWith 24 = .ok (.if_icmp .ne 9, 3) := by decide +kernel
theorem dX7_brokenWith_27 : decode cX7_brokenWith 27 = .ok (.aload_n 2, 1) := by decide +kernel
theorem dX7_brokenWith_28 : decode cX7_brokenWith 28 = .ok (.iload_n 3, 1) := by decide +kernel
theorem dX7_brokenWith_29 : decode cX7_brokenWith 29 = .ok (.iaload, 1) := by decide +kernel
theorem dX7_brokenWith_30 : decode cX7_brokenWith 30 = .ok (.goto 11, 3) := by decide +kernel
theorem dX7_brokenWith_33 : decode cX7_brokenWith 33 = .ok (.aload_n 0, 1) := by decide +kernel
theorem dX7_brokenWith_34 : decode cX7_brokenWith 34 = .ok (.getfield 42, 3) := by decide +kernel
theorem dX7_brokenWith_37 : decode cX7_brokenWith 37 = .ok (.iload_n 3, 1) := by decide +kernel
theorem dX7_brokenWith_38 : decode cX7_brokenWith 38 = .ok (.invokevirtual 65, 3) := by decide +kernel
theorem dX7_brokenWith_41 : decode cX7_brokenWith 41 = .ok (.iastore, 1) := by decide +kernel
theorem dX7_brokenWith_42 : decode cX7_brokenWith 42 = .ok (.iinc 3 1, 3) := by decide +kernel
theorem dX7_brokenWith_45 : decode cX7_brokenWith 45 = .ok (.goto (-43), 3) := by decide +kernel
theorem dX7_brokenWith_48 : decode cX7_brokenWith 48 = .ok (.aload_n 0, 1) := by decide +kernel
theorem dX7_brokenWith_49 : decode cX7_brokenWith 49 = .ok (.getfield 38, 3) := by decide +kernel
theorem dX7_brokenWith_52 : decode cX7_brokenWith 52 = .ok (.aload_n 0, 1) := by decide +kernel
theorem dX7_brokenWith_53 : decode cX7_brokenWith 53 = .ok (.getfield 22, 3) := by decide +kernel
theorem dX7_brokenWith_56 : decode cX7_brokenWith 56 = .ok (.aload_n 0, 1) := by decide +kernel
theorem dX7_brokenWith_57 : decode cX7_brokenWith 57 = .ok (.getfield 34, 3) := by decide +kernel
theorem dX7_brokenWith_60 : decode cX7_brokenWith 60 = .ok (.getfield 60, 3) := by decide +kernel
theorem dX7_brokenWith_63 : decode cX7_brokenWith 63 = .ok (.aload_n 0, 1) := by decide +kernel
theorem dX7_brokenWith_64 : decode cX7_brokenWith 64 = .ok (.getfield 38, 3) := by decide +kernel
theorem dX7_brokenWith_67 : decode cX7_brokenWith 67 = .ok (.getfield 71, 3) := by decide +kernel
theorem dX7_brokenWith_70 : decode cX7_brokenWith 70 = .ok (.invokevirtual 76, 3) := by decide +kernel
theorem dX7_brokenWith_73 : decode cX7_brokenWith 73 = .ok (.invokestatic 80, 3) := by decide +kernel
theorem dX7_brokenWith_76 : decode cX7_brokenWith 76 = .ok (.ireturn, 1) := by decide +kernel
theorem dX7_findPeaks_0 : decode cX7_findPeaks 0 = .ok (.aload_n 0, 1) := by decide +kernel
theorem dX7_findPeaks_1 : decode cX7_findPeaks 1 = .ok (.getfield 28, 3) := by decide +kernel
theorem dX7_findPeaks_4 : decode cX7_findPeaks 4 = .ok (.iload_n 1, 1) := by decide +kernel
theorem dX7_findPeaks_5 : decode cX7_findPeaks 5 = .ok (.iconst 0, 1) := by decide +kernel
theorem dX7_findPeaks_6 : decode cX7_findPeaks 6 = .ok (.iastore, 1) := by decide +kernel
theorem dX7_findPeaks_7 : decode cX7_findPeaks 7 = .ok (.iload_n 1, 1) := by decide +kernel
theorem dX7_findPeaks_8 : decode cX7_findPeaks 8 = .ok (.iconst 1, 1) := by decide +kernel
theorem dX7_findPeaks_9 : decode cX7_findPeaks 9 = .ok (.isub, 1) := by decide +kernel
theorem dX7_findPeaks_10 : decode cX7_findPeaks 10 = .ok (.istore_n 2, 1) := by decide +kernel
theorem dX7_findPeaks_11 : decode cX7_findPeaks 11 = .ok (.iload_n 2, 1) := by decide +kernel
theorem dX7_findPeaks_12 : decode cX7_findPeaks 12 = .ok (.ifCond .lt 104, 3) := by decide +kernel
theorem dX7_findPeaks_15 : decode cX7_findPeaks 15 = .ok (.iload_n 2, 1) := by decide +kernel
theorem dX7_findPeaks_16 : decode cX7_findPeaks 16 = .ok (.iload_n 1, 1) := by decide +kernel
theorem dX7_findPeaks_17 : decode cX7_findPeaks 17 = .ok (.iconst (-1), 1) := by decide +kernel
theorem dX7_findPeaks_18 : decode cX7_findPeaks 18 = .ok (.ixor, 1) := by decide +kernel
theorem dX7_findPeaks_19 : decode cX7_findPeaks 19 = .ok (.iand, 1) := by decide +kernel
theorem dX7_findPeaks_20 : decode cX7_findPeaks 20 = .ok (.ifCond .eq 6, 3) := by decide +kernel
theorem dX7_findPeaks_23 : decode cX7_findPeaks 23 = .ok (.goto 87, 3) := by decide +kernel
theorem dX7_findPeaks_26 : decode cX7_findPeaks 26 = .ok (.aload_n 0, 1) := by decide +kernel
theorem dX7_findPeaks_27 : decode cX7_findPeaks 27 = .ok (.getfield 28, 3) := by decide +kernel
theorem dX7_findPeaks_30 : decode cX7_findPeaks 30 = .ok (.iload_n 2, 1) := by decide +kernel
theorem dX7_findPeaks_31 : decode cX7_findPeaks 31 = .ok (.sipush 1000, 3) := by decide +kernel
theorem dX7_findPeaks_34 : decode cX7_findPeaks 34 = .ok (.iastore, 1) := by decide +kernel
theorem dX7_findPeaks_35 : decode cX7_findPeaks 35 = .ok (.iconst 0, 1) := by decide +kernel
theorem dX7_findPeaks_36 : decode cX7_findPeaks 36 = .ok (.istore_n 3, 1) := by decide +kernel
theorem dX7_findPeaks_37 : decode cX7_findPeaks 37 = .ok (.iload_n 3, 1) := by decide +kernel
theorem dX7_findPeaks_38 : decode cX7_findPeaks 38 = .ok (.bipush 6, 2) := by decide +kernel
theorem dX7_findPeaks_40 : decode cX7_findPeaks 40 = .ok (.if_icmp .ge 70, 3) := by decide +kernel
theorem dX7_findPeaks_43 : decode cX7_findPeaks 43 = .ok (.iload_n 2, 1) := by decide +kernel
theorem dX7_findPeaks_44 : decode cX7_findPeaks 44 = .ok (.iconst 1, 1) := by decide +kernel
theorem dX7_findPeaks_45 : decode cX7_findPeaks 45 = .ok (.iload_n 3, 1) := by decide +kernel
theorem dX7_findPeaks_46 : decode cX7_findPeaks 46 = .ok (.ishl, 1) := by decide +kernel
theorem dX7_findPeaks_47 : decode cX7_findPeaks 47 = .ok (.ior, 1) := by decide +kernel
theorem dX7_findPeaks_48 : decode cX7_findPeaks 48 = .ok (.istore 4, 2) := by decide +kernel
theorem dX7_findPeaks_50 : decode cX7_findPeaks 50 = .ok (.iload 4, 2) := by decide +kernel
theorem dX7_findPeaks_52 : decode cX7_findPeaks 52 = .ok (.iload_n 2, 1) := by decide +kernel
theorem dX7_findPeaks_53 : decode cX7_findPeaks 53 = .ok (.if_icmp .eq 51, 3) := by decide +kernel
theorem dX7_findPeaks_56 : decode cX7_findPeaks 56 = .ok (.iload 4, 2) := by decide +kernel
theorem dX7_findPeaks_58 : decode cX7_findPeaks 58 = .ok (.iload_n 1, 1) := by decide +kernel
theorem dX7_findPeaks_59 : decode cX7_findPeaks 59 = .ok (.iconst (-1), 1) := by decide +kernel
theorem dX7_findPeaks_60 : decode cX7_findPeaks 60 = .ok (.ixor, 1) := by decide +kernel
theorem dX7_findPeaks_61 : decode cX7_findPeaks 61 = .ok (.iand, 1) := by decide +kernel
theorem dX7_findPeaks_62 : decode cX7_findPeaks 62 = .ok (.ifCond .eq 6, 3) := by decide +kernel
theorem dX7_findPeaks_65 : decode cX7_findPeaks 65 = .ok (.goto 39, 3) := by decide +kernel
theorem dX7_findPeaks_68 : decode cX7_findPeaks 68 = .ok (.aload_n 0, 1) := by decide +kernel
theorem dX7_findPeaks_69 : decode cX7_findPeaks 69 = .ok (.getfield 25, 3) := by decide +kernel
theorem dX7_findPeaks_72 : decode cX7_findPeaks 72 = .ok (.iload 4, 2) := by decide +kernel
theorem dX7_findPeaks_74 : decode cX7_findPeaks 74 = .ok (.iaload, 1) := by decide +kernel
theorem dX7_findPeaks_75 : decode cX7_findPeaks 75 = .ok (.aload_n 0, 1) := by decide +kernel
theorem dX7_findPeaks_76 : decode cX7_findPeaks 76 = .ok (.getfield 28, 3) := by decide +kernel
theorem dX7_findPeaks_79 : decode cX7_findPeaks 79 = .ok (.iload 4, 2) := by decide +kernel
theorem dX7_findPeaks_81 : decode cX7_findPeaks 81 = .ok (.iaload, 1) := by decide +kernel
theorem dX7_findPeaks_82 : decode cX7_findPeaks 82 = .ok (.invokestatic 85, 3) := by decide +kernel
theorem dX7_findPeaks_85 : decode cX7_findPeaks 85 = .ok (.istore 5, 2) := by decide +kernel
theorem dX7_findPeaks_87 : decode cX7_findPeaks 87 = .ok (.aload_n 0, 1) := by decide +kernel
theorem dX7_findPeaks_88 : decode cX7_findPeaks 88 = .ok (.getfield 28, 3) := by decide +kernel
theorem dX7_findPeaks_91 : decode cX7_findPeaks 91 = .ok (.iload_n 2, 1) := by decide +kernel
theorem dX7_findPeaks_92 : decode cX7_findPeaks 92 = .ok (.aload_n 0, 1) := by decide +kernel
theorem dX7_findPeaks_93 : decode cX7_findPeaks 93 = .ok (.getfield 28, 3) := by decide +kernel
theorem dX7_findPeaks_96 : decode cX7_findPeaks 96 = .ok (.iload_n 2, 1) := by decide +kernel
theorem dX7_findPeaks_97 : decode cX7_findPeaks 97 = .ok (.iaload, 1) := by decide +kernel
theorem dX7_findPeaks_98 : decode cX7_findPeaks 98 = .ok (.iload 5, 2) := by decide +kernel
theorem dX7_findPeaks_100 : decode cX7_findPeaks 100 = .ok (.invokestatic 91, 3) := by decide +kernel
theorem dX7_findPeaks_103 : decode cX7_findPeaks 103 = .ok (.iastore, 1) := by decide +kernel
theorem dX7_findPeaks_104 : decode cX7_findPeaks 104 = .ok (.iinc 3 1, 3) := by decide +kernel
theorem dX7_findPeaks_107 : decode cX7_findPeaks 107 = .ok (.goto (-70), 3) := by decide +kernel
theorem dX7_findPeaks_110 : decode cX7_findPeaks 110 = .ok (.iinc 2 (-1), 3) := by decide +kernel
theorem dX7_findPeaks_113 : decode cX7_findPeaks 113 = .ok (.goto (-102), 3) := by decide +kernel
theorem dX7_findPeaks_116 : decode cX7_findPeaks 116 = .ok (.return_, 1) := by decide +kernel
theorem dX7_findSums_0 : decode cX7_findSums 0 = .ok (.aload_n 0, 1) := by decide +kernel
theorem dX7_findSums_1 : decode cX7_findSums 1 = .ok (.getfield 31, 3) := by decide +kernel
theorem dX7_findSums_4 : decode cX7_findSums 4 = .ok (.iload_n 1, 1) := by decide +kernel
theorem dX7_findSums_5 : decode cX7_findSums 5 = .ok (.iconst 0, 1) := by decide +kernel
theorem dX7_findSums_6 : decode cX7_findSums 6 = .ok (.iastore, 1) := by decide +kernel
theorem dX7_findSums_7 : decode cX7_findSums 7 = .ok (.iload_n 1, 1) := by decide +kernel
theorem dX7_findSums_8 : decode cX7_findSums 8 = .ok (.iconst 1, 1) := by decide +kernel
theorem dX7_findSums_9 : decode cX7_findSums 9 = .ok (.isub, 1) := by decide +kernel
theorem dX7_findSums_10 : decode cX7_findSums 10 = .ok (.istore_n 2, 1) := by decide +kernel
theorem dX7_findSums_11 : decode cX7_findSums 11 = .ok (.iload_n 2, 1) := by decide +kernel
theorem dX7_findSums_12 : decode cX7_findSums 12 = .ok (.ifCond .lt 89, 3) := by decide +kernel
theorem dX7_findSums_15 : decode cX7_findSums 15 = .ok (.iload_n 2, 1) := by decide +kernel
theorem dX7_findSums_16 : decode cX7_findSums 16 = .ok (.iload_n 1, 1) := by decide +kernel
theorem dX7_findSums_17 : decode cX7_findSums 17 = .ok (.iconst (-1), 1) := by decide +kernel
theorem dX7_findSums_18 : decode cX7_findSums 18 = .ok (.ixor, 1) := by decide +kernel
theorem dX7_findSums_19 : decode cX7_findSums 19 = .ok (.iand, 1) := by decide +kernel
theorem dX7_findSums_20 : decode cX7_findSums 20 = .ok (.ifCond .eq 6, 3) := by decide +kernel
theorem dX7_findSums_23 : decode cX7_findSums 23 = .ok (.goto 72, 3) := by decide +kernel
theorem dX7_findSums_26 : decode cX7_findSums 26 = .ok (.aload_n 0, 1) := by decide +kernel
theorem dX7_findSums_27 : decode cX7_findSums 27 = .ok (.getfield 31, 3) := by decide +kernel
theorem dX7_findSums_30 : decode cX7_findSums 30 = .ok (.iload_n 2, 1) := by decide +kernel
theorem dX7_findSums_31 : decode cX7_findSums 31 = .ok (.sipush 1000, 3) := by decide +kernel
theorem dX7_findSums_34 : decode cX7_findSums 34 = .ok (.iastore, 1) := by decide +kernel
theorem dX7_findSums_35 : decode cX7_findSums 35 = .ok (.iconst 0, 1) := by decide +kernel
theorem dX7_findSums_36 : decode cX7_findSums 36 = .ok (.istore_n 3, 1) := by decide +kernel
theorem dX7_findSums_37 : decode cX7_findSums 37 = .ok (.iload_n 3, 1) := by decide +kernel
theorem dX7_findSums_38 : decode cX7_findSums 38 = .ok (.bipush 6, 2) := by decide +kernel
theorem dX7_findSums_40 : decode cX7_findSums 40 = .ok (.if_icmp .ge 55, 3) := by decide +kernel
theorem dX7_findSums_43 : decode cX7_findSums 43 = .ok (.iload_n 2, 1) := by decide +kernel
theorem dX7_findSums_44 : decode cX7_findSums 44 = .ok (.iconst 1, 1) := by decide +kernel
theorem dX7_findSums_45 : decode cX7_findSums 45 = .ok (.iload_n 3, 1) := by decide +kernel
theorem dX7_findSums_46 : decode cX7_findSums 46 = .ok (.ishl, 1) := by decide +kernel
theorem dX7_findSums_47 : decode cX7_findSums 47 = .ok (.ior, 1) := by decide +kernel
theorem dX7_findSums_48 : decode cX7_findSums 48 = .ok (.istore 4, 2) := by decide +kernel
theorem dX7_findSums_50 : decode cX7_findSums 50 = .ok (.iload 4, 2) := by decide +kernel
theorem dX7_findSums_52 : decode cX7_findSums 52 = .ok (.iload_n 2, 1) := by decide +kernel
theorem dX7_findSums_53 : decode cX7_findSums 53 = .ok (.if_icmp .eq 36, 3) := by decide +kernel
theorem dX7_findSums_56 : decode cX7_findSums 56 = .ok (.iload 4, 2) := by decide +kernel
theorem dX7_findSums_58 : decode cX7_findSums 58 = .ok (.iload_n 1, 1) := by decide +kernel
theorem dX7_findSums_59 : decode cX7_findSums 59 = .ok (.iconst (-1), 1) := by decide +kernel
theorem dX7_findSums_60 : decode cX7_findSums 60 = .ok (.ixor, 1) := by decide +kernel
theorem dX7_findSums_61 : decode cX7_findSums 61 = .ok (.iand, 1) := by decide +kernel
theorem dX7_findSums_62 : decode cX7_findSums 62 = .ok (.ifCond .eq 6, 3) := by decide +kernel
theorem dX7_findSums_65 : decode cX7_findSums 65 = .ok (.goto 24, 3) := by decide +kernel
theorem dX7_findSums_68 : decode cX7_findSums 68 = .ok (.aload_n 0, 1) := by decide +kernel
theorem dX7_findSums_69 : decode cX7_findSums 69 = .ok (.getfield 31, 3) := by decide +kernel
theorem dX7_findSums_72 : decode cX7_findSums 72 = .ok (.iload_n 2, 1) := by decide +kernel
theorem dX7_findSums_73 : decode cX7_findSums 73 = .ok (.aload_n 0, 1) := by decide +kernel
theorem dX7_findSums_74 : decode cX7_findSums 74 = .ok (.getfield 31, 3) := by decide +kernel
theorem dX7_findSums_77 : decode cX7_findSums 77 = .ok (.iload_n 2, 1) := by decide +kernel
theorem dX7_findSums_78 : decode cX7_findSums 78 = .ok (.iaload, 1) := by decide +kernel
theorem dX7_findSums_79 : decode cX7_findSums 79 = .ok (.aload_n 0, 1) := by decide +kernel
theorem dX7_findSums_80 : decode cX7_findSums 80 = .ok (.iload 4, 2) := by decide +kernel
theorem dX7_findSums_82 : decode cX7_findSums 82 = .ok (.invokevirtual 94, 3) := by decide +kernel
theorem dX7_findSums_85 : decode cX7_findSums 85 = .ok (.invokestatic 91, 3) := by decide +kernel
theorem dX7_findSums_88 : decode cX7_findSums 88 = .ok (.iastore, 1) := by decide +kernel
theorem dX7_findSums_89 : decode cX7_findSums 89 = .ok (.iinc 3 1, 3) := by decide +kernel
theorem dX7_findSums_92 : decode cX7_findSums 92 = .ok (.goto (-55), 3) := by decide +kernel
theorem dX7_findSums_95 : decode cX7_findSums 95 = .ok (.iinc 2 (-1), 3) := by decide +kernel
theorem dX7_findSums_98 : decode cX7_findSums 98 = .ok (.goto (-87), 3) := by decide +kernel
theorem dX7_findSums_101 : decode cX7_findSums 101 = .ok (.return_, 1) := by decide +kernel
theorem dX7_sumThrough_0 : decode cX7_sumThrough 0 = .ok (.aload_n 0, 1) := by decide +kernel
theorem dX7_sumThrough_1 : decode cX7_sumThrough 1 = .ok (.getfield 25, 3) := by decide +kernel
theorem dX7_sumThrough_4 : decode cX7_sumThrough 4 = .ok (.iload_n 1, 1) := by decide +kernel
theorem dX7_sumThrough_5 : decode cX7_sumThrough 5 = .ok (.iaload, 1) := by decide +kernel
theorem dX7_sumThrough_6 : decode cX7_sumThrough 6 = .ok (.aload_n 0, 1) := by decide +kernel
theorem dX7_sumThrough_7 : decode cX7_sumThrough 7 = .ok (.getfield 28, 3) := by decide +kernel
theorem dX7_sumThrough_10 : decode cX7_sumThrough 10 = .ok (.iconst 0, 1) := by decide +kernel
theorem dX7_sumThrough_11 : decode cX7_sumThrough 11 = .ok (.iaload, 1) := by decide +kernel
theorem dX7_sumThrough_12 : decode cX7_sumThrough 12 = .ok (.if_icmp .le 7, 3) := by decide +kernel
theorem dX7_sumThrough_15 : decode cX7_sumThrough 15 = .ok (.sipush 1000, 3) := by decide +kernel
theorem dX7_sumThrough_18 : decode cX7_sumThrough 18 = .ok (.ireturn, 1) := by decide +kernel
theorem dX7_sumThrough_19 : decode cX7_sumThrough 19 = .ok (.sipush 1000, 3) := by decide +kernel
theorem dX7_sumThrough_22 : decode cX7_sumThrough 22 = .ok (.aload_n 0, 1) := by decide +kernel
theorem dX7_sumThrough_23 : decode cX7_sumThrough 23 = .ok (.getfield 25, 3) := by decide +kernel
theorem dX7_sumThrough_26 : decode cX7_sumThrough 26 = .ok (.iload_n 1, 1) := by decide +kernel
theorem dX7_sumThrough_27 : decode cX7_sumThrough 27 = .ok (.iaload, 1) := by decide +kernel
theorem dX7_sumThrough_28 : decode cX7_sumThrough 28 = .ok (.aload_n 0, 1) := by decide +kernel
theorem dX7_sumThrough_29 : decode cX7_sumThrough 29 = .ok (.getfield 31, 3) := by decide +kernel
theorem dX7_sumThrough_32 : decode cX7_sumThrough 32 = .ok (.iload_n 1, 1) := by decide +kernel
theorem dX7_sumThrough_33 : decode cX7_sumThrough 33 = .ok (.iaload, 1) := by decide +kernel
theorem dX7_sumThrough_34 : decode cX7_sumThrough 34 = .ok (.iadd, 1) := by decide +kernel
theorem dX7_sumThrough_35 : decode cX7_sumThrough 35 = .ok (.invokestatic 91, 3) := by decide +kernel
theorem dX7_sumThrough_38 : decode cX7_sumThrough 38 = .ok (.ireturn, 1) := by decide +kernel
theorem dX7_follow_0 : decode cX7_follow 0 = .ok (.aload_n 0, 1) := by decide +kernel
theorem dX7_follow_1 : decode cX7_follow 1 = .ok (.iload_n 1, 1) := by decide +kernel
theorem dX7_follow_2 : decode cX7_follow 2 = .ok (.invokestatic 80, 3) := by decide +kernel
theorem dX7_follow_5 : decode cX7_follow 5 = .ok (.putfield 9, 3) := by decide +kernel
theorem dX7_follow_8 : decode cX7_follow 8 = .ok (.iconst 0, 1) := by decide +kernel
theorem dX7_follow_9 : decode cX7_follow 9 = .ok (.istore_n 2, 1) := by decide +kernel
theorem dX7_follow_10 : decode cX7_follow 10 = .ok (.iconst 0, 1) := by decide +kernel
theorem dX7_follow_11 : decode cX7_follow 11 = .ok (.istore_n 3, 1) := by decide +kernel
theorem dX7_follow_12 : decode cX7_follow 12 = .ok (.iload_n 3, 1) := by decide +kernel
theorem dX7_follow_13 : decode cX7_follow 13 = .ok (.aload_n 0, 1) := by decide +kernel
theorem dX7_follow_14 : decode cX7_follow 14 = .ok (.getfield 9, 3) := by decide +kernel
theorem dX7_follow_17 : decode cX7_follow 17 = .ok (.if_icmp .ge 44, 3) := by decide +kernel
theorem dX7_follow_20 : decode cX7_follow 20 = .ok (.aload_n 0, 1) := by decide +kernel
theorem dX7_follow_21 : decode cX7_follow 21 = .ok (.iload_n 2, 1) := by decide +kernel
theorem dX7_follow_22 : decode cX7_follow 22 = .ok (.iload_n 1, 1) := by decide +kernel
theorem dX7_follow_23 : decode cX7_follow 23 = .ok (.invokevirtual 97, 3) := by decide +kernel
theorem dX7_follow_26 : decode cX7_follow 26 = .ok (.istore 4, 2) := by decide +kernel
theorem dX7_follow_28 : decode cX7_follow 28 = .ok (.iload_n 2, 1) := by decide +kernel
theorem dX7_follow_29 : decode cX7_follow 29 = .ok (.iconst 1, 1) := by decide +kernel
theorem dX7_follow_30 : decode cX7_follow 30 = .ok (.iload 4, 2) := by decide +kernel
theorem dX7_follow_32 : decode cX7_follow 32 = .ok (.ishl, 1) := by decide +kernel
theorem dX7_follow_33 : decode cX7_follow 33 = .ok (.ior, 1) := by decide +kernel
theorem dX7_follow_34 : decode cX7_follow 34 = .ok (.istore_n 2, 1) := by decide +kernel
theorem dX7_follow_35 : decode cX7_follow 35 = .ok (.aload_n 0, 1) := by decide +kernel
theorem dX7_follow_36 : decode cX7_follow 36 = .ok (.getfield 15, 3) := by decide +kernel
theorem dX7_follow_39 : decode cX7_follow 39 = .ok (.iload_n 3, 1) := by decide +kernel
theorem dX7_follow_40 : decode cX7_follow 40 = .ok (.iload 4, 2) := by decide +kernel
theorem dX7_follow_42 : decode cX7_follow 42 = .ok (.iastore, 1) := by decide +kernel
theorem dX7_follow_43 : decode cX7_follow 43 = .ok (.aload_n 0, 1) := by decide +kernel
theorem dX7_follow_44 : decode cX7_follow 44 = .ok (.getfield 19, 3) := by decide +kernel
theorem dX7_follow_47 : decode cX7_follow 47 = .ok (.iload_n 3, 1) := by decide +kernel
theorem dX7_follow_48 : decode cX7_follow 48 = .ok (.aload_n 0, 1) := by decide +kernel
theorem dX7_follow_49 : decode cX7_follow 49 = .ok (.getfield 25, 3) := by decide +kernel
theorem dX7_follow_52 : decode cX7_follow 52 = .ok (.iload_n 2, 1) := by decide +kernel
theorem dX7_follow_53 : decode cX7_follow 53 = .ok (.iaload, 1) := by decide +kernel
theorem dX7_follow_54 : decode cX7_follow 54 = .ok (.iastore, 1) := by decide +kernel
theorem dX7_follow_55 : decode cX7_follow 55 = .ok (.iinc 3 1, 3) := by decide +kernel
theorem dX7_follow_58 : decode cX7_follow 58 = .ok (.goto (-46), 3) := by decide +kernel
theorem dX7_follow_61 : decode cX7_follow 61 = .ok (.return_, 1) := by decide +kernel
theorem dX7_leastStep_0 : decode cX7_leastStep 0 = .ok (.iconst 0, 1) := by decide +kernel
theorem dX7_leastStep_1 : decode cX7_leastStep 1 = .ok (.istore_n 3, 1) := by decide +kernel
theorem dX7_leastStep_2 : decode cX7_leastStep 2 = .ok (.iload_n 3, 1) := by decide +kernel
theorem dX7_leastStep_3 : decode cX7_leastStep 3 = .ok (.bipush 6, 2) := by decide +kernel
theorem dX7_leastStep_5 : decode cX7_leastStep 5 = .ok (.if_icmp .ge 51, 3) := by decide +kernel
theorem dX7_leastStep_8 : decode cX7_leastStep 8 = .ok (.iload_n 1, 1) := by decide +kernel
theorem dX7_leastStep_9 : decode cX7_leastStep 9 = .ok (.iconst 1, 1) := by decide +kernel
theorem dX7_leastStep_10 : decode cX7_leastStep 10 = .ok (.iload_n 3, 1) := by decide +kernel
theorem dX7_leastStep_11 : decode cX7_leastStep 11 = .ok (.ishl, 1) := by decide +kernel
theorem dX7_leastStep_12 : decode cX7_leastStep 12 = .ok (.ior, 1) := by decide +kernel
theorem dX7_leastStep_13 : decode cX7_leastStep 13 = .ok (.istore 4, 2) := by decide +kernel
theorem dX7_leastStep_15 : decode cX7_leastStep 15 = .ok (.iload 4, 2) := by decide +kernel
theorem dX7_leastStep_17 : decode cX7_leastStep 17 = .ok (.iload_n 1, 1) := by decide +kernel
theorem dX7_leastStep_18 : decode cX7_leastStep 18 = .ok (.if_icmp .eq 32, 3) := by decide +kernel
theorem dX7_leastStep_21 : decode cX7_leastStep 21 = .ok (.iload 4, 2) := by decide +kernel
theorem dX7_leastStep_23 : decode cX7_leastStep 23 = .ok (.iload_n 2, 1) := by decide +kernel
theorem dX7_leastStep_24 : decode cX7_leastStep 24 = .ok (.iconst (-1), 1) := by decide +kernel
theorem dX7_leastStep_25 : decode cX7_leastStep 25 = .ok (.ixor, 1) := by decide +kernel
theorem dX7_leastStep_26 : decode cX7_leastStep 26 = .ok (.iand, 1) := by decide +kernel
theorem dX7_leastStep_27 : decode cX7_leastStep 27 = .ok (.ifCond .eq 6, 3) := by decide +kernel
theorem dX7_leastStep_30 : decode cX7_leastStep 30 = .ok (.goto 20, 3) := by decide +kernel
theorem dX7_leastStep_33 : decode cX7_leastStep 33 = .ok (.aload_n 0, 1) := by decide +kernel
theorem dX7_leastStep_34 : decode cX7_leastStep 34 = .ok (.iload 4, 2) := by decide +kernel
theorem dX7_leastStep_36 : decode cX7_leastStep 36 = .ok (.invokevirtual 94, 3) := by decide +kernel
theorem dX7_leastStep_39 : decode cX7_leastStep 39 = .ok (.aload_n 0, 1) := by decide +kernel
theorem dX7_leastStep_40 : decode cX7_leastStep 40 = .ok (.getfield 31, 3) := by decide +kernel
theorem dX7_leastStep_43 : decode cX7_leastStep 43 = .ok (.iload_n 1, 1) := by decide +kernel
theorem dX7_leastStep_44 : decode cX7_leastStep 44 = .ok (.iaload, 1) := by decide +kernel
theorem dX7_leastStep_45 : decode cX7_leastStep 45 = .ok (.if_icmp .ne 5, 3) := by decide +kernel
theorem dX7_leastStep_48 : decode cX7_leastStep 48 = .ok (.iload_n 3, 1) := by decide +kernel
theorem dX7_leastStep_49 : decode cX7_leastStep 49 = .ok (.ireturn, 1) := by decide +kernel
theorem dX7_leastStep_50 : decode cX7_leastStep 50 = .ok (.iinc 3 1, 3) := by decide +kernel
theorem dX7_leastStep_53 : decode cX7_leastStep 53 = .ok (.goto (-51), 3) := by decide +kernel
theorem dX7_leastStep_56 : decode cX7_leastStep 56 = .ok (.iconst 0, 1) := by decide +kernel
theorem dX7_leastStep_57 : decode cX7_leastStep 57 = .ok (.ireturn, 1) := by decide +kernel
theorem dX8_init_0 : decode cX8_init 0 = .ok (.aload_n 0, 1) := by decide +kernel
theorem dX8_init_1 : decode cX8_init 1 = .ok (.invokespecial 3, 3) := by decide +kernel
theorem dX8_init_4 : decode cX8_init 4 = .ok (.aload_n 0, 1) := by decide +kernel
theorem dX8_init_5 : decode cX8_init 5 = .ok (.iconst 0, 1) := by decide +kernel
theorem dX8_init_6 : decode cX8_init 6 = .ok (.putfield 9, 3) := by decide +kernel
theorem dX8_init_9 : decode cX8_init 9 = .ok (.aload_n 0, 1) := by decide +kernel
theorem dX8_init_10 : decode cX8_init 10 = .ok (.bipush 6, 2) := by decide +kernel
theorem dX8_init_12 : decode cX8_init 12 = .ok (.newarray .int, 2) := by decide +kernel
theorem dX8_init_14 : decode cX8_init 14 = .ok (.putfield 15, 3) := by decide +kernel
theorem dX8_init_17 : decode cX8_init 17 = .ok (.aload_n 0, 1) := by decide +kernel
theorem dX8_init_18 : decode cX8_init 18 = .ok (.iconst 0, 1) := by decide +kernel
theorem dX8_init_19 : decode cX8_init 19 = .ok (.putfield 19, 3) := by decide +kernel
theorem dX8_init_22 : decode cX8_init 22 = .ok (.aload_n 0, 1) := by decide +kernel
theorem dX8_init_23 : decode cX8_init 23 = .ok (.bipush 12, 2) := by decide +kernel
theorem dX8_init_25 : decode cX8_init 25 = .ok (.newarray .int, 2) := by decide +kernel
theorem dX8_init_27 : decode cX8_init 27 = .ok (.putfield 22, 3) := by decide +kernel
theorem dX8_init_30 : decode cX8_init 30 = .ok (.aload_n 0, 1) := by decide +kernel
theorem dX8_init_31 : decode cX8_init 31 = .ok (.bipush 12, 2) := by decide +kernel
theorem dX8_init_33 : decode cX8_init 33 = .ok (.newarray .int, 2) := by decide +kernel
theorem dX8_init_35 : decode cX8_init 35 = .ok (.putfield 25, 3) := by decide +kernel
theorem dX8_init_38 : decode cX8_init 38 = .ok (.aload_n 0, 1) := by decide +kernel
theorem dX8_init_39 : decode cX8_init 39 = .ok (.bipush 12, 2) := by decide +kernel
theorem dX8_init_41 : decode cX8_init 41 = .ok (.newarray .int, 2) := by decide +kernel
theorem dX8_init_43 : decode cX8_init 43 = .ok (.putfield 28, 3) := by decide +kernel
theorem dX8_init_46 : decode cX8_init 46 = .ok (.aload_n 0, 1) := by decide +kernel
theorem dX8_init_47 : decode cX8_init 47 = .ok (.bipush 12, 2) := by decide +kernel
theorem dX8_init_49 : decode cX8_init 49 = .ok (.newarray .int, 2) := by decide +kernel
theorem dX8_init_51 : decode cX8_init 51 = .ok (.putfield 31, 3) := by decide +kernel
theorem dX8_init_54 : decode cX8_init 54 = .ok (.aload_n 0, 1) := by decide +kernel
theorem dX8_init_55 : decode cX8_init 55 = .ok (.bipush 6, 2) := by decide +kernel
theorem dX8_init_57 : decode cX8_init 57 = .ok (.newarray .int, 2) := by decide +kernel
theorem dX8_init_59 : decode cX8_init 59 = .ok (.putfield 34, 3) := by decide +kernel
theorem dX8_init_62 : decode cX8_init 62 = .ok (.aload_n 0, 1) := by decide +kernel
theorem dX8_init_63 : decode cX8_init 63 = .ok (.bipush 6, 2) := by decide +kernel
theorem dX8_init_65 : decode cX8_init 65 = .ok (.newarray .int, 2) := by decide +kernel
theorem dX8_init_67 : decode cX8_init 67 = .ok (.putfield 37, 3) := by decide +kernel
theorem dX8_init_70 : decode cX8_init 70 = .ok (.return_, 1) := by decide +kernel
theorem dX8_addFact_0 : decode cX8_addFact 0 = .ok (.aload_n 0, 1) := by decide +kernel
theorem dX8_addFact_1 : decode cX8_addFact 1 = .ok (.getfield 15, 3) := by decide +kernel
theorem dX8_addFact_4 : decode cX8_addFact 4 = .ok (.aload_n 0, 1) := by decide +kernel
theorem dX8_addFact_5 : decode cX8_addFact 5 = .ok (.getfield 9, 3) := by decide +kernel
theorem dX8_addFact_8 : decode cX8_addFact 8 = .ok (.iload_n 1, 1) := by decide +kernel
theorem dX8_addFact_9 : decode cX8_addFact 9 = .ok (.iastore, 1) := by decide +kernel
theorem dX8_addFact_10 : decode cX8_addFact 10 = .ok (.aload_n 0, 1) := by decide +kernel
theorem dX8_addFact_11 : decode cX8_addFact 11 = .ok (.dup, 1) := by decide +kernel
theorem dX8_addFact_12 : decode cX8_addFact 12 = .ok (.getfield 9, 3) := by decide +kernel
theorem dX8_addFact_15 : decode cX8_addFact 15 = .ok (.iconst 1, 1) := by decide +kernel
theorem dX8_addFact_16 : decode cX8_addFact 16 = .ok (.iadd, 1) := by decide +kernel
theorem dX8_addFact_17 : decode cX8_addFact 17 = .ok (.putfield 9, 3) := by decide +kernel
theorem dX8_addFact_20 : decode cX8_addFact 20 = .ok (.aload_n 0, 1) := by decide +kernel
theorem dX8_addFact_21 : decode cX8_addFact 21 = .ok (.getfield 9, 3) := by decide +kernel
theorem dX8_addFact_24 : decode cX8_addFact 24 = .ok (.iconst 1, 1) := by decide +kernel
theorem dX8_addFact_25 : decode cX8_addFact 25 = .ok (.isub, 1) := by decide +kernel
theorem dX8_addFact_26 : decode cX8_addFact 26 = .ok (.ireturn, 1) := by decide +kernel
theorem dX8_hasFact_0 : decode cX8_hasFact 0 = .ok (.iload_n 1, 1) := by decide +kernel
theorem dX8_hasFact_1 : decode cX8_hasFact 1 = .ok (.ifCond .lt 15, 3) := by decide +kernel
theorem dX8_hasFact_4 : decode cX8_hasFact 4 = .ok (.iload_n 1, 1) := by decide +kernel
theorem dX8_hasFact_5 : decode cX8_hasFact 5 = .ok (.aload_n 0, 1) := by decide +kernel
theorem dX8_hasFact_6 : decode cX8_hasFact 6 = .ok (.getfield 9, 3) := by decide +kernel
theorem dX8_hasFact_9 : decode cX8_hasFact 9 = .ok (.if_icmp .ge 7, 3) := by decide +kernel
theorem dX8_hasFact_12 : decode cX8_hasFact 12 = .ok (.iconst 1, 1) := by decide +kernel
theorem dX8_hasFact_13 : decode cX8_hasFact 13 = .ok (.goto 4, 3) := by decide +kernel
theorem dX8_hasFact_16 : decode cX8_hasFact 16 = .ok (.iconst 0, 1) := by decide +kernel
theorem dX8_hasFact_17 : decode cX8_hasFact 17 = .ok (.ireturn, 1) := by decide +kernel
theorem dX8_add_0 : decode cX8_add 0 = .ok (.aload_n 0, 1) := by decide +kernel
theorem dX8_add_1 : decode cX8_add 1 = .ok (.getfield 19, 3) := by decide +kernel
theorem dX8_add_4 : decode cX8_add 4 = .ok (.istore 5, 2) := by decide +kernel
theorem dX8_add_6 : decode cX8_add 6 = .ok (.aload_n 0, 1) := by decide +kernel
theorem dX8_add_7 : decode cX8_add 7 = .ok (.getfield 22, 3) := by decide +kernel
theorem dX8_add_10 : decode cX8_add 10 = .ok (.iload 5, 2) := by decide +kernel
theorem dX8_add_12 : decode cX8_add 12 = .ok (.iload_n 1, 1) := by decide +kernel
theorem dX8_add_13 : decode cX8_add 13 = .ok (.iastore, 1) := by decide +kernel
theorem dX8_add_14 : decode cX8_add 14 = .ok (.aload_n 0, 1) := by decide +kernel
theorem dX8_add_15 : decode cX8_add 15 = .ok (.getfield 25, 3) := by decide +kernel
theorem dX8_add_18 : decode cX8_add 18 = .ok (.iload 5, 2) := by decide +kernel
theorem dX8_add_20 : decode cX8_add 20 = .ok (.iload_n 2, 1) := by decide +kernel
theorem dX8_add_21 : decode cX8_add 21 = .ok (.iastore, 1) := by decide +kernel
theorem dX8_add_22 : decode cX8_add 22 = .ok (.aload_n 0, 1) := by decide +kernel
theorem dX8_add_23 : decode cX8_add 23 = .ok (.getfield 28, 3) := by decide +kernel
theorem dX8_add_26 : decode cX8_add 26 = .ok (.iload 5, 2) := by decide +kernel
theorem dX8_add_28 : decode cX8_add 28 = .ok (.iload_n 3, 1) := by decide +kernel
theorem dX8_add_29 : decode cX8_add 29 = .ok (.iastore, 1) := by decide +kernel
theorem dX8_add_30 : decode cX8_add 30 = .ok (.aload_n 0, 1) := by decide +kernel
theorem dX8_add_31 : decode cX8_add 31 = .ok (.getfield 31, 3) := by decide +kernel
theorem dX8_add_34 : decode cX8_add 34 = .ok (.iload 5, 2) := by decide +kernel
theorem dX8_add_36 : decode cX8_add 36 = .ok (.iload 4, 2) := by decide +kernel
theorem dX8_add_38 : decode cX8_add 38 = .ok (.iastore, 1) := by decide +kernel
theorem dX8_add_39 : decode cX8_add 39 = .ok (.iload_n 1, 1) := by decide +kernel
theorem dX8_add_40 : decode cX8_add 40 = .ok (.iconst 5, 1) := by decide +kernel
theorem dX8_add_41 : decode cX8_add 41 = .ok (.if_icmp .ne 19, 3) := by decide +kernel
theorem dX8_add_44 : decode cX8_add 44 = .ok (.aload_n 0, 1) := by decide +kernel
theorem dX8_add_45 : decode cX8_add 45 = .ok (.getfield 37, 3) := by decide +kernel
theorem dX8_add_48 : decode cX8_add 48 = .ok (.iload_n 3, 1) := by decide +kernel
theorem dX8_add_49 : decode cX8_add 49 = .ok (.dup2, 1) := by decide +kernel
theorem dX8_add_50 : decode cX8_add 50 = .ok (.iaload, 1) := by decide +kernel
theorem dX8_add_51 : decode cX8_add 51 = .ok (.iconst 1, 1) := by decide +kernel
theorem dX8_add_52 : decode cX8_add 52 = .ok (.iload 5, 2) := by decide +kernel
theorem dX8_add_54 : decode cX8_add 54 = .ok (.ishl, 1) := by decide +kernel
theorem dX8_add_55 : decode cX8_add 55 = .ok (.ior, 1) := by decide +kernel
theorem dX8_add_56 : decode cX8_add 56 = .ok (.iastore, 1) := by decide +kernel
theorem dX8_add_57 : decode cX8_add 57 = .ok (.goto 20, 3) := by decide +kernel
theorem dX8_add_60 : decode cX8_add 60 = .ok (.aload_n 0, 1) := by decide +kernel
theorem dX8_add_61 : decode cX8_add 61 = .ok (.getfield 34, 3) := by decide +kernel
theorem dX8_add_64 : decode cX8_add 64 = .ok (.iload_n 2, 1) := by decide +kernel
theorem dX8_add_65 : decode cX8_add 65 = .ok (.iload_n 3, 1) := by decide +kernel
theorem dX8_add_66 : decode cX8_add 66 = .ok (.invokestatic 40, 3) := by decide +kernel
theorem dX8_add_69 : decode cX8_add 69 = .ok (.dup2, 1) := by decide +kernel
theorem dX8_add_70 : decode cX8_add 70 = .ok (.iaload, 1) := by decide +kernel
theorem dX8_add_71 : decode cX8_add 71 = .ok (.iconst 1, 1) := by decide +kernel
theorem dX8_add_72 : decode cX8_add 72 = .ok (.iload 5, 2) := by decide +kernel
theorem dX8_add_74 : decode cX8_add 74 = .ok (.ishl, 1) := by decide +kernel
theorem dX8_add_75 : decode cX8_add 75 = .ok (.ior, 1) := by decide +kernel
theorem dX8_add_76 : decode cX8_add 76 = .ok (.iastore, 1) := by decide +kernel
theorem dX8_add_77 : decode cX8_add 77 = .ok (.aload_n 0, 1) := by decide +kernel
theorem dX8_add_78 : decode cX8_add 78 = .ok (.dup, 1) := by decide +kernel
theorem dX8_add_79 : decode cX8_add 79 = .ok (.getfield 19, 3) := by decide +kernel
theorem dX8_add_82 : decode cX8_add 82 = .ok (.iconst 1, 1) := by decide +kernel
theorem dX8_add_83 : decode cX8_add 83 = .ok (.iadd, 1) := by decide +kernel
theorem dX8_add_84 : decode cX8_add 84 = .ok (.putfield 19, 3) := by decide +kernel
theorem dX8_add_87 : decode cX8_add 87 = .ok (.iload 5, 2) := by decide +kernel
theorem dX8_add_89 : decode cX8_add 89 = .ok (.ireturn, 1) := by decide +kernel
theorem dX8_has_0 : decode cX8_has 0 = .ok (.iload_n 1, 1) := by decide +kernel
theorem dX8_has_1 : decode cX8_has 1 = .ok (.ifCond .lt 15, 3) := by decide +kernel
theorem dX8_has_4 : decode cX8_has 4 = .ok (.iload_n 1, 1) := by decide +kernel
theorem dX8_has_5 : decode cX8_has 5 = .ok (.aload_n 0, 1) := by decide +kernel
theorem dX8_has_6 : decode cX8_has 6 = .ok (.getfield 19, 3) := by decide +kernel
theorem dX8_has_9 : decode cX8_has 9 = .ok (.if_icmp .ge 7, 3) := by decide +kernel
theorem dX8_has_12 : decode cX8_has 12 = .ok (.iconst 1, 1) := by decide +kernel
theorem dX8_has_13 : decode cX8_has 13 = .ok (.goto 4, 3) := by decide +kernel
theorem dX8_has_16 : decode cX8_has 16 = .ok (.iconst 0, 1) := by decide +kernel
theorem dX8_has_17 : decode cX8_has 17 = .ok (.ireturn, 1) := by decide +kernel
theorem dX8_brokenIn_0 : decode cX8_brokenIn 0 = .ok (.aload_n 0, 1) := by decide +kernel
theorem dX8_brokenIn_1 : decode cX8_brokenIn 1 = .ok (.aload_n 3, 1) := by decide +kernel
theorem dX8_brokenIn_2 : decode cX8_brokenIn 2 = .ok (.invokevirtual 46, 3) := by decide +kernel
theorem dX8_brokenIn_5 : decode cX8_brokenIn 5 = .ok (.istore 4, 2) := by decide +kernel
theorem dX8_brokenIn_7 : decode cX8_brokenIn 7 = .ok (.iconst 0, 1) := by decide +kernel
theorem dX8_brokenIn_8 : decode cX8_brokenIn 8 = .ok (.istore 5, 2) := by decide +kernel
theorem dX8_brokenIn_10 : decode cX8_brokenIn 10 = .ok (.iload 5, 2) := by decide +kernel
theorem dX8_brokenIn_12 : decode cX8_brokenIn 12 = .ok (.iload_n 2, 1) := by decide +kernel
theorem dX8_brokenIn_13 : decode cX8_brokenIn 13 = .ok (.if_icmp .ge 22, 3) := by decide +kernel
theorem dX8_brokenIn_16 : decode cX8_brokenIn 16 = .ok (.iload 4, 2) := by decide +kernel
theorem dX8_brokenIn_18 : decode cX8_brokenIn 18 = .ok (.aload_n 0, 1) := by decide +kernel
theorem dX8_brokenIn_19 : decode cX8_brokenIn 19 = .ok (.aload_n 1, 1) := by decide +kernel
theorem dX8_brokenIn_20 : decode cX8_brokenIn 20 = .ok (.iload 5, 2) := by decide +kernel
theorem dX8_brokenIn_22 : decode cX8_brokenIn 22 = .ok (.aload_n 3, 1) := by decide +kernel
theorem dX8_brokenIn_23 : decode cX8_brokenIn 23 = .ok (.invokevirtual 50, 3) := by decide +kernel
theorem dX8_brokenIn_26 : decode cX8_brokenIn 26 = .ok (.ior, 1) := by decide +kernel
theorem dX8_brokenIn_27 : decode cX8_brokenIn 27 = .ok (.istore 4, 2) := by decide +kernel
theorem dX8_brokenIn_29 : decode cX8_brokenIn 29 = .ok (.iinc 5 1, 3) := by decide +kernel
theorem dX8_brokenIn_32 : decode cX8_brokenIn 32 = .ok (.goto (-22), 3) := by decide +kernel
theorem dX8_brokenIn_35 : decode cX8_brokenIn 35 = .ok (.iload 4, 2) := by decide +kernel
theorem dX8_brokenIn_37 : decode cX8_brokenIn 37 = .ok (.ireturn, 1) := by decide +kernel
theorem dX8_brokenByNone_0 : decode cX8_brokenByNone 0 = .ok (.iconst 0, 1) := by decide +kernel
theorem dX8_brokenByNone_1 : decode cX8_brokenByNone 1 = .ok (.istore_n 2, 1) := by decide +kernel
theorem dX8_brokenByNone_2 : decode cX8_brokenByNone 2 = .ok (.iconst 0, 1) := by decide +kernel
theorem dX8_brokenByNone_3 : decode cX8_brokenByNone 3 = .ok (.istore_n 3, 1) := by decide +kernel
theorem dX8_brokenByNone_4 : decode cX8_brokenByNone 4 = .ok (.iload_n 3, 1) := by decide +kernel
theorem dX8_brokenByNone_5 : decode cX8_brokenByNone 5 = .ok (.aload_n 0, 1) := by decide +kernel
theorem dX8_brokenByNone_6 : decode cX8_brokenByNone 6 = .ok (.getfield 19, 3) := by decide +kernel
theorem dX8_brokenByNone_9 : decode cX8_brokenByNone 9 = .ok (.if_icmp .ge 36, 3) := by decide +kernel
theorem dX8_brokenByNone_12 : decode cX8_brokenByNone 12 = .ok (.aload_n 0, 1) := by decide +kernel
theorem dX8_brokenByNone_13 : decode cX8_brokenByNone 13 = .ok (.getfield 22, 3) := by decide +kernel
theorem dX8_brokenByNone_16 : decode cX8_brokenByNone 16 = .ok (.iload_n 3, 1) := by decide +kernel
theorem dX8_brokenByNone_17 : decode cX8_brokenByNone 17 = .ok (.iaload, 1) := by decide +kernel
theorem dX8_brokenByNone_18 : decode cX8_brokenByNone 18 = .ok (.iconst 5, 1) := by decide +kernel
theorem dX8_brokenByNone_19 : decode cX8_brokenByNone 19 = .ok (.if_icmp .ne 20, 3) := by decide +kernel
theorem dX8_brokenByNone_22 : decode cX8_brokenByNone 22 = .ok (.aload_n 1, 1) := by decide +kernel
theorem dX8_brokenByNone_23 : decode cX8_brokenByNone 23 = .ok (.aload_n 0, 1) := by decide +kernel
theorem dX8_brokenByNone_24 : decode cX8_brokenByNone 24 = .ok (.getfield 31, 3) := by decide +kernel
theorem dX8_brokenByNone_27 : decode cX8_brokenByNone 27 = .ok (.iload_n 3, 1) := by decide +kernel
theorem dX8_brokenByNone_28 : decode cX8_brokenByNone 28 = .ok (.iaload, 1) := by decide +kernel
theorem dX8_brokenByNone_29 : decode cX8_brokenByNone 29 = .ok (.iaload, 1) := by decide +kernel
theorem dX8_brokenByNone_30 : decode cX8_brokenByNone 30 = .ok (.ifCond .ge 9, 3) := by decide +kernel
theorem dX8_brokenByNone_33 : decode cX8_brokenByNone 33 = .ok (.iload_n 2, 1) := by decide +kernel
theorem dX8_brokenByNone_34 : decode cX8_brokenByNone 34 = .ok (.iconst 1, 1) := by decide +kernel
theorem dX8_brokenByNone_35 : decode cX8_brokenByNone 35 = .ok (.iload_n 3, 1) := by decide +kernel
theorem dX8_brokenByNone_36 : decode cX8_brokenByNone 36 = .ok (.ishl, 1) := by decide +kernel
theorem dX8_brokenByNone_37 : decode cX8_brokenByNone 37 = .ok (.ior, 1) := by decide +kernel
theorem dX8_brokenByNone_38 : decode cX8_brokenByNone 38 = .ok (.istore_n 2, 1) := by decide +kernel
theorem dX8_brokenByNone_39 : decode cX8_brokenByNone 39 = .ok (.iinc 3 1, 3) := by decide +kernel
theorem dX8_brokenByNone_42 : decode cX8_brokenByNone 42 = .ok (.goto (-38), 3) := by decide +kernel
theorem dX8_brokenByNone_45 : decode cX8_brokenByNone 45 = .ok (.iload_n 2, 1) := by decide +kernel
theorem dX8_brokenByNone_46 : decode cX8_brokenByNone 46 = .ok (.ireturn, 1) := by decide +kernel
theorem dX8_brokenAt_0 : decode cX8_brokenAt 0 = .ok (.aload_n 0, 1) := by decide +kernel
theorem dX8_brokenAt_1 : decode cX8_brokenAt 1 = .ok (.getfield 34, 3) := by decide +kernel
theorem dX8_brokenAt_4 : decode cX8_brokenAt 4 = .ok (.iload_n 2, 1) := by decide +kernel
theorem dX8_brokenAt_5 : decode cX8_brokenAt 5 = .ok (.iaload, 1) := by decide +kernel
theorem dX8_brokenAt_6 : decode cX8_brokenAt 6 = .ok (.aload_n 0, 1) := by decide +kernel
theorem dX8_brokenAt_7 : decode cX8_brokenAt 7 = .ok (.getfield 37, 3) := by decide +kernel
theorem dX8_brokenAt_10 : decode cX8_brokenAt 10 = .ok (.aload_n 1, 1) := by decide +kernel
theorem dX8_brokenAt_11 : decode cX8_brokenAt 11 = .ok (.iload_n 2, 1) := by decide +kernel
theorem dX8_brokenAt_12 : decode cX8_brokenAt 12 = .ok (.iaload, 1) := by decide +kernel
theorem dX8_brokenAt_13 : decode cX8_brokenAt 13 = .ok (.iaload, 1) := by decide +kernel
theorem dX8_brokenAt_14 : decode cX8_brokenAt 14 = .ok (.ior, 1) := by decide +kernel
theorem dX8_brokenAt_15 : decode cX8_brokenAt 15 = .ok (.istore 4, 2) := by decide +kernel
theorem dX8_brokenAt_17 : decode cX8_brokenAt 17 = .ok (.iconst 0, 1) := by decide +kernel
theorem dX8_brokenAt_18 : decode cX8_brokenAt 18 = .ok (.istore 5, 2) := by decide +kernel
theorem dX8_brokenAt_20 : decode cX8_brokenAt 20 = .ok (.iconst 0, 1) := by decide +kernel
theorem dX8_brokenAt_21 : decode cX8_brokenAt 21 = .ok (.istore 6, 2) := by decide +kernel
theorem dX8_brokenAt_23 : decode cX8_brokenAt 23 = .ok (.iload 6, 2) := by decide +kernel
theorem dX8_brokenAt_25 : decode cX8_brokenAt 25 = .ok (.aload_n 0, 1) := by decide +kernel
theorem dX8_brokenAt_26 : decode cX8_brokenAt 26 = .ok (.getfield 19, 3) := by decide +kernel
theorem dX8_brokenAt_29 : decode cX8_brokenAt 29 = .ok (.if_icmp .ge 51, 3) := by decide +kernel
theorem dX8_brokenAt_32 : decode cX8_brokenAt 32 = .ok (.iload 4, 2) := by decide +kernel
theorem dX8_brokenAt_34 : decode cX8_brokenAt 34 = .ok (.iload 6, 2) := by decide +kernel
theorem dX8_brokenAt_36 : decode cX8_brokenAt 36 = .ok (.ishr, 1) := by decide +kernel
theorem dX8_brokenAt_37 : decode cX8_brokenAt 37 = .ok (.iconst 1, 1) := by decide +kernel
theorem dX8_brokenAt_38 : decode cX8_brokenAt 38 = .ok (.iand, 1) := by decide +kernel
theorem dX8_brokenAt_39 : decode cX8_brokenAt 39 = .ok (.ifCond .ne 6, 3) := by decide +kernel
theorem dX8_brokenAt_42 : decode cX8_brokenAt 42 = .ok (.goto 32, 3) := by decide +kernel
theorem dX8_brokenAt_45 : decode cX8_brokenAt 45 = .ok (.aload_n 0, 1) := by decide +kernel
theorem dX8_brokenAt_46 : decode cX8_brokenAt 46 = .ok (.iload 6, 2) := by decide +kernel
theorem dX8_brokenAt_48 : decode cX8_brokenAt 48 = .ok (.aload_n 1, 1) := by decide +kernel
theorem dX8_brokenAt_49 : decode cX8_brokenAt 49 = .ok (.iload_n 2, 1) := by decide +kernel
theorem dX8_brokenAt_50 : decode cX8_brokenAt 50 = .ok (.aload_n 3, 1) := by decide +kernel
theorem dX8_brokenAt_51 : decode cX8_brokenAt 51 = .ok (.aload_n 0, 1) := by decide +kernel
theorem dX8_brokenAt_52 : decode cX8_brokenAt 52 = .ok (.getfield 31, 3) := by decide +kernel
theorem dX8_brokenAt_55 : decode cX8_brokenAt 55 = .ok (.iload 6, 2) := by decide +kernel
theorem dX8_brokenAt_57 : decode cX8_brokenAt 57 = .ok (.iaload, 1) := by decide +kernel
theorem dX8_brokenAt_58 : decode cX8_brokenAt 58 = .ok (.iaload, 1) := by decide +kernel
theorem dX8_brokenAt_59 : decode cX8_brokenAt 59 = .ok (.invokevirtual 54, 3) := by decide +kernel
theorem dX8_brokenAt_62 : decode cX8_brokenAt 62 = .ok (.ifCond .ne 12, 3) := by decide +kernel
theorem dX8_brokenAt_65 : decode cX8_brokenAt 65 = .ok (.iload 5, 2) := by decide +kernel
theorem dX8_brokenAt_67 : decode cX8_brokenAt 67 = .ok (.iconst 1, 1) := by decide +kernel
theorem dX8_brokenAt_68 : decode cX8_brokenAt 68 = .ok (.iload 6, 2) := by decide +kernel
theorem dX8_brokenAt_70 : decode cX8_brokenAt 70 = .ok (.ishl, 1) := by decide +kernel
theorem dX8_brokenAt_71 : decode cX8_brokenAt 71 = .ok (.ior, 1) := by decide +kernel
theorem dX8_brokenAt_72 : decode cX8_brokenAt 72 = .ok (.istore 5, 2) := by decide +kernel
theorem dX8_brokenAt_74 : decode cX8_brokenAt 74 = .ok (.iinc 6 1, 3) := by decide +kernel
theorem dX8_brokenAt_77 : decode cX8_brokenAt 77 = .ok (.goto (-54), 3) := by decide +kernel
theorem dX8_brokenAt_80 : decode cX8_brokenAt 80 = .ok (.iload 5, 2) := by decide +kernel
theorem dX8_brokenAt_82 : decode cX8_brokenAt 82 = .ok (.ireturn, 1) := by decide +kernel
theorem dX8_isKept_0 : decode cX8_isKept 0 = .ok (.aload_n 0, 1) := by decide +kernel
theorem dX8_isKept_1 : decode cX8_isKept 1 = .ok (.getfield 22, 3) := by decide +kernel
theorem dX8_isKept_4 : decode cX8_isKept 4 = .ok (.iload_n 1, 1) := by decide +kernel
theorem dX8_isKept_5 : decode cX8_isKept 5 = .ok (.iaload, 1) := by decide +kernel
theorem dX8_isKept_6 : decode cX8_isKept 6 = .ok (.iconst 5, 1) := by decide +kernel
theorem dX8_isKept_7 : decode cX8_isKept 7 = .ok (.if_icmp .ne 25, 3) := by decide +kernel
theorem dX8_isKept_10 : decode cX8_isKept 10 = .ok (.iload_n 3, 1) := by decide +kernel
theorem dX8_isKept_11 : decode cX8_isKept 11 = .ok (.aload_n 2, 1) := by decide +kernel
theorem dX8_isKept_12 : decode cX8_isKept 12 = .ok (.aload_n 0, 1) := by decide +kernel
theorem dX8_isKept_13 : decode cX8_isKept 13 = .ok (.getfield 28, 3) := by decide +kernel
theorem dX8_isKept_16 : decode cX8_isKept 16 = .ok (.iload_n 1, 1) := by decide +kernel
theorem dX8_isKept_17 : decode cX8_isKept 17 = .ok (.iaload, 1) := by decide +kernel
theorem dX8_isKept_18 : decode cX8_isKept 18 = .ok (.invokestatic 58, 3) := by decide +kernel
theorem dX8_isKept_21 : decode cX8_isKept 21 = .ok (.iload 4, 2) := by decide +kernel
theorem dX8_isKept_23 : decode cX8_isKept 23 = .ok (.if_icmp .gt 7, 3) := by decide +kernel
theorem dX8_isKept_26 : decode cX8_isKept 26 = .ok (.iconst 1, 1) := by decide +kernel
theorem dX8_isKept_27 : decode cX8_isKept 27 = .ok (.goto 4, 3) := by decide +kernel
theorem dX8_isKept_30 : decode cX8_isKept 30 = .ok (.iconst 0, 1) := by decide +kernel
theorem dX8_isKept_31 : decode cX8_isKept 31 = .ok (.ireturn, 1) := by decide +kernel
theorem dX8_isKept_32 : decode cX8_isKept 32 = .ok (.aload_n 2, 1) := by decide +kernel
theorem dX8_isKept_33 : decode cX8_isKept 33 = .ok (.aload_n 0, 1) := by decide +kernel
theorem dX8_isKept_34 : decode cX8_isKept 34 = .ok (.getfield 25, 3) := by decide +kernel
theorem dX8_isKept_37 : decode cX8_isKept 37 = .ok (.iload_n 1, 1) := by decide +kernel
theorem dX8_isKept_38 : decode cX8_isKept 38 = .ok (.iaload, 1) := by decide +kernel
theorem dX8_isKept_39 : decode cX8_isKept 39 = .ok (.iaload, 1) := by decide +kernel
theorem dX8_isKept_40 : decode cX8_isKept 40 = .ok (.istore 5, 2) := by decide +kernel
theorem dX8_isKept_42 : decode cX8_isKept 42 = .ok (.aload_n 2, 1) := by decide +kernel
theorem dX8_isKept_43 : decode cX8_isKept 43 = .ok (.aload_n 0, 1) := by decide +kernel
theorem dX8_isKept_44 : decode cX8_isKept 44 = .ok (.getfield 28, 3) := by decide +kernel
theorem dX8_isKept_47 : decode cX8_isKept 47 = .ok (.iload_n 1, 1) := by decide +kernel
theorem dX8_isKept_48 : decode cX8_isKept 48 = .ok (.iaload, 1) := by decide +kernel
theorem dX8_isKept_49 : decode cX8_isKept 49 = .ok (.iaload, 1) := by decide +kernel
theorem dX8_isKept_50 : decode cX8_isKept 50 = .ok (.istore 6, 2) := by decide +kernel
theorem dX8_isKept_52 : decode cX8_isKept 52 = .ok (.aload_n 0, 1) := by decide +kernel
theorem dX8_isKept_53 : decode cX8_isKept 53 = .ok (.getfield 22, 3) := by decide +kernel
theorem dX8_isKept_56 : decode cX8_isKept 56 = .ok (.iload_n 1, 1) := by decide +kernel
theorem dX8_isKept_57 : decode cX8_isKept 57 = .ok (.iaload, 1) := by decide +kernel
theorem dX8_isKept_58 : decode cX8_isKept 58 = .ok (.tableswitch 97 0 3 #[30, 46, 62, 78], 30) := by decide +kernel
theorem dX8_isKept_88 : decode cX8_isKept 88 = .ok (.iload 5, 2) := by decide +kernel
theorem dX8_isKept_90 : decode cX8_isKept 90 = .ok (.iload 6, 2) := by decide +kernel
theorem dX8_isKept_92 : decode cX8_isKept 92 = .ok (.isub, 1) := by decide +kernel
theorem dX8_isKept_93 : decode cX8_isKept 93 = .ok (.iload 4, 2) := by decide +kernel
theorem dX8_isKept_95 : decode cX8_isKept 95 = .ok (.if_icmp .gt 7, 3) := by decide +kernel
theorem dX8_isKept_98 : decode cX8_isKept 98 = .ok (.iconst 1, 1) := by decide +kernel
theorem dX8_isKept_99 : decode cX8_isKept 99 = .ok (.goto 4, 3) := by decide +kernel
theorem dX8_isKept_102 : decode cX8_isKept 102 = .ok (.iconst 0, 1) := by decide +kernel
theorem dX8_isKept_103 : decode cX8_isKept 103 = .ok (.ireturn, 1) := by decide +kernel
theorem dX8_isKept_104 : decode cX8_isKept 104 = .ok (.iload 5, 2) := by decide +kernel
theorem dX8_isKept_106 : decode cX8_isKept 106 = .ok (.iload 6, 2) := by decide +kernel
theorem dX8_isKept_108 : decode cX8_isKept 108 = .ok (.iadd, 1) := by decide +kernel
theorem dX8_isKept_109 : decode cX8_isKept 109 = .ok (.iload 4, 2) := by decide +kernel
theorem dX8_isKept_111 : decode cX8_isKept 111 = .ok (.if_icmp .gt 7, 3) := by decide +kernel
theorem dX8_isKept_114 : decode cX8_isKept 114 = .ok (.iconst 1, 1) := by decide +kernel
theorem dX8_isKept_115 : decode cX8_isKept 115 = .ok (.goto 4, 3) := by decide +kernel
theorem dX8_isKept_118 : decode cX8_isKept 118 = .ok (.iconst 0, 1) := by decide +kernel
theorem dX8_isKept_119 : decode cX8_isKept 119 = .ok (.ireturn, 1) := by decide +kernel
theorem dX8_isKept_120 : decode cX8_isKept 120 = .ok (.iload 5, 2) := by decide +kernel
theorem dX8_isKept_122 : decode cX8_isKept 122 = .ok (.iload 6, 2) := by decide +kernel
theorem dX8_isKept_124 : decode cX8_isKept 124 = .ok (.iadd, 1) := by decide +kernel
theorem dX8_isKept_125 : decode cX8_isKept 125 = .ok (.iload 4, 2) := by decide +kernel
theorem dX8_isKept_127 : decode cX8_isKept 127 = .ok (.if_icmp .lt 7, 3) := by decide +kernel
theorem dX8_isKept_130 : decode cX8_isKept 130 = .ok (.iconst 1, 1) := by decide +kernel
theorem dX8_isKept_131 : decode cX8_isKept 131 = .ok (.goto 4, 3) := by decide +kernel
theorem dX8_isKept_134 : decode cX8_isKept 134 = .ok (.iconst 0, 1) := by decide +kernel
theorem dX8_isKept_135 : decode cX8_isKept 135 = .ok (.ireturn, 1) := by decide +kernel
theorem dX8_isKept_136 : decode cX8_isKept 136 = .ok (.iload 5, 2) := by decide +kernel
theorem dX8_isKept_138 : decode cX8_isKept 138 = .ok (.iload 6, 2) := by decide +kernel
theorem dX8_isKept_140 : decode cX8_isKept 140 = .ok (.isub, 1) := by decide +kernel
theorem dX8_isKept_141 : decode cX8_isKept 141 = .ok (.invokestatic 62, 3) := by decide +kernel
theorem dX8_isKept_144 : decode cX8_isKept 144 = .ok (.iload 4, 2) := by decide +kernel
theorem dX8_isKept_146 : decode cX8_isKept 146 = .ok (.if_icmp .lt 7, 3) := by decide +kernel
theorem dX8_isKept_149 : decode cX8_isKept 149 = .ok (.iconst 1, 1) := by decide +kernel
theorem dX8_isKept_150 : decode cX8_isKept 150 = .ok (.goto 4, 3) := by decide +kernel
theorem dX8_isKept_153 : decode cX8_isKept 153 = .ok (.iconst 0, 1) := by decide +kernel
theorem dX8_isKept_154 : decode cX8_isKept 154 = .ok (.ireturn, 1) := by decide +kernel
theorem dX8_isKept_155 : decode cX8_isKept 155 = .ok (.iload 5, 2) := by decide +kernel
theorem dX8_isKept_157 : decode cX8_isKept 157 = .ok (.iload 6, 2) := by decide +kernel
theorem dX8_isKept_159 : decode cX8_isKept 159 = .ok (.isub, 1) := by decide +kernel
theorem dX8_isKept_160 : decode cX8_isKept 160 = .ok (.invokestatic 62, 3) := by decide +kernel
theorem dX8_isKept_163 : decode cX8_isKept 163 = .ok (.iload 4, 2) := by decide +kernel
theorem dX8_isKept_165 : decode cX8_isKept 165 = .ok (.if_icmp .gt 7, 3) := by decide +kernel
theorem dX8_isKept_168 : decode cX8_isKept 168 = .ok (.iconst 1, 1) := by decide +kernel
theorem dX8_isKept_169 : decode cX8_isKept 169 = .ok (.goto 4, 3) := by decide +kernel
theorem dX8_isKept_172 : decode cX8_isKept 172 = .ok (.iconst 0, 1) := by decide +kernel
theorem dX8_isKept_173 : decode cX8_isKept 173 = .ok (.ireturn, 1) := by decide +kernel
theorem dX8_timesUpTo_0 : decode cX8_timesUpTo 0 = .ok (.iconst 0, 1) := by decide +kernel
theorem dX8_timesUpTo_1 : decode cX8_timesUpTo 1 = .ok (.istore_n 3, 1) := by decide +kernel
theorem dX8_timesUpTo_2 : decode cX8_timesUpTo 2 = .ok (.iconst 0, 1) := by decide +kernel
theorem dX8_timesUpTo_3 : decode cX8_timesUpTo 3 = .ok (.istore 4, 2) := by decide +kernel
theorem dX8_timesUpTo_5 : decode cX8_timesUpTo 5 = .ok (.iload 4, 2) := by decide +kernel
theorem dX8_timesUpTo_7 : decode cX8_timesUpTo 7 = .ok (.iload_n 0, 1) := by decide +kernel
theorem dX8_timesUpTo_8 : decode cX8_timesUpTo 8 = .ok (.if_icmp .gt 20, 3) := by decide +kernel
theorem dX8_timesUpTo_11 : decode cX8_timesUpTo 11 = .ok (.aload_n 1, 1) := by decide +kernel
theorem dX8_timesUpTo_12 : decode cX8_timesUpTo 12 = .ok (.iload 4, 2) := by decide +kernel
theorem dX8_timesUpTo_14 : decode cX8_timesUpTo 14 = .ok (.iaload, 1) := by decide +kernel
theorem dX8_timesUpTo_15 : decode cX8_timesUpTo 15 = .ok (.iload_n 2, 1) := by decide +kernel
theorem dX8_timesUpTo_16 : decode cX8_timesUpTo 16 = .ok (.if_icmp .ne 6, 3) := by decide +kernel
theorem dX8_timesUpTo_19 : decode cX8_timesUpTo 19 = .ok (.iinc 3 1, 3) := by decide +kernel
theorem dX8_timesUpTo_22 : decode cX8_timesUpTo 22 = .ok (.iinc 4 1, 3) := by decide +kernel
theorem dX8_timesUpTo_25 : decode cX8_timesUpTo 25 = .ok (.goto (-20), 3) := by decide +kernel
theorem dX8_timesUpTo_28 : decode cX8_timesUpTo 28 = .ok (.iload_n 3, 1) := by decide +kernel
theorem dX8_timesUpTo_29 : decode cX8_timesUpTo 29 = .ok (.ireturn, 1) := by decide +kernel
theorem dX9_init_0 : decode cX9_init 0 = .ok (.aload_n 0, 1) := by decide +kernel
theorem dX9_init_1 : decode cX9_init 1 = .ok (.invokespecial 3, 3) := by decide +kernel
theorem dX9_init_4 : decode cX9_init 4 = .ok (.aload_n 0, 1) := by decide +kernel
theorem dX9_init_5 : decode cX9_init 5 = .ok (.aload_n 1, 1) := by decide +kernel
theorem dX9_init_6 : decode cX9_init 6 = .ok (.putfield 9, 3) := by decide +kernel
theorem dX9_init_9 : decode cX9_init 9 = .ok (.aload_n 0, 1) := by decide +kernel
theorem dX9_init_10 : decode cX9_init 10 = .ok (.aload_n 2, 1) := by decide +kernel
theorem dX9_init_11 : decode cX9_init 11 = .ok (.putfield 15, 3) := by decide +kernel
theorem dX9_init_14 : decode cX9_init 14 = .ok (.return_, 1) := by decide +kernel
theorem dX9_costAt_0 : decode cX9_costAt 0 = .ok (.aload_n 0, 1) := by decide +kernel
theorem dX9_costAt_1 : decode cX9_costAt 1 = .ok (.getfield 15, 3) := by decide +kernel
theorem dX9_costAt_4 : decode cX9_costAt 4 = .ok (.iload_n 1, 1) := by decide +kernel
theorem dX9_costAt_5 : decode cX9_costAt 5 = .ok (.iload_n 2, 1) := by decide +kernel
theorem dX9_costAt_6 : decode cX9_costAt 6 = .ok (.invokevirtual 19, 3) := by decide +kernel
theorem dX9_costAt_9 : decode cX9_costAt 9 = .ok (.ifCond .ne 5, 3) := by decide +kernel
theorem dX9_costAt_12 : decode cX9_costAt 12 = .ok (.iconst 0, 1) := by decide +kernel
theorem dX9_costAt_13 : decode cX9_costAt 13 = .ok (.ireturn, 1) := by decide +kernel
theorem dX9_costAt_14 : decode cX9_costAt 14 = .ok (.aload_n 0, 1) := by decide +kernel
theorem dX9_costAt_15 : decode cX9_costAt 15 = .ok (.getfield 15, 3) := by decide +kernel
theorem dX9_costAt_18 : decode cX9_costAt 18 = .ok (.iload_n 1, 1) := by decide +kernel
theorem dX9_costAt_19 : decode cX9_costAt 19 = .ok (.invokevirtual 25, 3) := by decide +kernel
theorem dX9_costAt_22 : decode cX9_costAt 22 = .ok (.iload_n 2, 1) := by decide +kernel
theorem dX9_costAt_23 : decode cX9_costAt 23 = .ok (.isub, 1) := by decide +kernel
theorem dX9_costAt_24 : decode cX9_costAt 24 = .ok (.invokestatic 29, 3) := by decide +kernel
theorem dX9_costAt_27 : decode cX9_costAt 27 = .ok (.istore_n 3, 1) := by decide +kernel
theorem dX9_costAt_28 : decode cX9_costAt 28 = .ok (.aload_n 0, 1) := by decide +kernel
theorem dX9_costAt_29 : decode cX9_costAt 29 = .ok (.getfield 9, 3) := by decide +kernel
theorem dX9_costAt_32 : decode cX9_costAt 32 = .ok (.getfield 34, 3) := by decide +kernel
theorem dX9_costAt_35 : decode cX9_costAt 35 = .ok (.iload_n 1, 1) := by decide +kernel
theorem dX9_costAt_36 : decode cX9_costAt 36 = .ok (.iaload, 1) := by decide +kernel
theorem dX9_costAt_37 : decode cX9_costAt 37 = .ok (.aload_n 0, 1) := by decide +kernel
theorem dX9_costAt_38 : decode cX9_costAt 38 = .ok (.getfield 9, 3) := by decide +kernel
theorem dX9_costAt_41 : decode cX9_costAt 41 = .ok (.getfield 40, 3) := by decide +kernel
theorem dX9_costAt_44 : decode cX9_costAt 44 = .ok (.iload_n 1, 1) := by decide +kernel
theorem dX9_costAt_45 : decode cX9_costAt 45 = .ok (.iaload, 1) := by decide +kernel
theorem dX9_costAt_46 : decode cX9_costAt 46 = .ok (.iload_n 3, 1) := by decide +kernel
theorem dX9_costAt_47 : decode cX9_costAt 47 = .ok (.imul, 1) := by decide +kernel
theorem dX9_costAt_48 : decode cX9_costAt 48 = .ok (.iadd, 1) := by decide +kernel
theorem dX9_costAt_49 : decode cX9_costAt 49 = .ok (.ireturn, 1) := by decide +kernel
theorem dX9_costOf_0 : decode cX9_costOf 0 = .ok (.iconst 0, 1) := by decide +kernel
theorem dX9_costOf_1 : decode cX9_costOf 1 = .ok (.istore_n 2, 1) := by decide +kernel
theorem dX9_costOf_2 : decode cX9_costOf 2 = .ok (.iconst 0, 1) := by decide +kernel
theorem dX9_costOf_3 : decode cX9_costOf 3 = .ok (.istore_n 3, 1) := by decide +kernel
theorem dX9_costOf_4 : decode cX9_costOf 4 = .ok (.iload_n 3, 1) := by decide +kernel
theorem dX9_costOf_5 : decode cX9_costOf 5 = .ok (.aload_n 0, 1) := by decide +kernel
theorem dX9_costOf_6 : decode cX9_costOf 6 = .ok (.getfield 9, 3) := by decide +kernel
theorem dX9_costOf_9 : decode cX9_costOf 9 = .ok (.getfield 43, 3) := by decide +kernel
theorem dX9_costOf_12 : decode cX9_costOf 12 = .ok (.if_icmp .ge 20, 3) := by decide +kernel
theorem dX9_costOf_15 : decode cX9_costOf 15 = .ok (.iload_n 2, 1) := by decide +kernel
theorem dX9_costOf_16 : decode cX9_costOf 16 = .ok (.aload_n 0, 1) := by decide +kernel
theorem dX9_costOf_17 : decode cX9_costOf 17 = .ok (.iload_n 3, 1) := by decide +kernel
theorem dX9_costOf_18 : decode cX9_costOf 18 = .ok (.aload_n 1, 1) := by decide +kernel
theorem dX9_costOf_19 : decode cX9_costOf 19 = .ok (.iload_n 3, 1) := by decide +kernel
theorem dX9_costOf_20 : decode cX9_costOf 20 = .ok (.iaload, 1) := by decide +kernel
theorem dX9_costOf_21 : decode cX9_costOf 21 = .ok (.invokevirtual 47, 3) := by decide +kernel
theorem dX9_costOf_24 : decode cX9_costOf 24 = .ok (.iadd, 1) := by decide +kernel
theorem dX9_costOf_25 : decode cX9_costOf 25 = .ok (.istore_n 2, 1) := by decide +kernel
theorem dX9_costOf_26 : decode cX9_costOf 26 = .ok (.iinc 3 1, 3) := by decide +kernel
theorem dX9_costOf_29 : decode cX9_costOf 29 = .ok (.goto (-25), 3) := by decide +kernel
theorem dX9_costOf_32 : decode cX9_costOf 32 = .ok (.iload_n 2, 1) := by decide +kernel
theorem dX9_costOf_33 : decode cX9_costOf 33 = .ok (.ireturn, 1) := by decide +kernel
theorem dX9_worthAt_0 : decode cX9_worthAt 0 = .ok (.aload_n 0, 1) := by decide +kernel
theorem dX9_worthAt_1 : decode cX9_worthAt 1 = .ok (.getfield 9, 3) := by decide +kernel
theorem dX9_worthAt_4 : decode cX9_worthAt 4 = .ok (.getfield 51, 3) := by decide +kernel
theorem dX9_worthAt_7 : decode cX9_worthAt 7 = .ok (.iload_n 1, 1) := by decide +kernel
theorem dX9_worthAt_8 : decode cX9_worthAt 8 = .ok (.aaload, 1) := by decide +kernel
theorem dX9_worthAt_9 : decode cX9_worthAt 9 = .ok (.iload_n 2, 1) := by decide +kernel
theorem dX9_worthAt_10 : decode cX9_worthAt 10 = .ok (.iaload, 1) := by decide +kernel
theorem dX9_worthAt_11 : decode cX9_worthAt 11 = .ok (.ireturn, 1) := by decide +kernel
theorem dX9_worthOf_0 : decode cX9_worthOf 0 = .ok (.iconst 0, 1) := by decide +kernel
theorem dX9_worthOf_1 : decode cX9_worthOf 1 = .ok (.istore_n 2, 1) := by decide +kernel
theorem dX9_worthOf_2 : decode cX9_worthOf 2 = .ok (.iconst 0, 1) := by decide +kernel
theorem dX9_worthOf_3 : decode cX9_worthOf 3 = .ok (.istore_n 3, 1) := by decide +kernel
theorem dX9_worthOf_4 : decode cX9_worthOf 4 = .ok (.iload_n 3, 1) := by decide +kernel
theorem dX9_worthOf_5 : decode cX9_worthOf 5 = .ok (.aload_n 0, 1) := by decide +kernel
theorem dX9_worthOf_6 : decode cX9_worthOf 6 = .ok (.getfield 9, 3) := by decide +kernel
theorem dX9_worthOf_9 : decode cX9_worthOf 9 = .ok (.getfield 43, 3) := by decide +kernel
theorem dX9_worthOf_12 : decode cX9_worthOf 12 = .ok (.if_icmp .ge 20, 3) := by decide +kernel
theorem dX9_worthOf_15 : decode cX9_worthOf 15 = .ok (.iload_n 2, 1) := by decide +kernel
theorem dX9_worthOf_16 : decode cX9_worthOf 16 = .ok (.aload_n 0, 1) := by decide +kernel
theorem dX9_worthOf_17 : decode cX9_worthOf 17 = .ok (.iload_n 3, 1) := by decide +kernel
theorem dX9_worthOf_18 : decode cX9_worthOf 18 = .ok (.aload_n 1, 1) := by decide +kernel
theorem dX9_worthOf_19 : decode cX9_worthOf 19 = .ok (.iload_n 3, 1) := by decide +kernel
theorem dX9_worthOf_20 : decode cX9_worthOf 20 = .ok (.iaload, 1) := by decide +kernel
theorem dX9_worthOf_21 : decode cX9_worthOf 21 = .ok (.invokevirtual 55, 3) := by decide +kernel
theorem dX9_worthOf_24 : decode cX9_worthOf 24 = .ok (.iadd, 1) := by decide +kernel
theorem dX9_worthOf_25 : decode cX9_worthOf 25 = .ok (.istore_n 2, 1) := by decide +kernel
theorem dX9_worthOf_26 : decode cX9_worthOf 26 = .ok (.iinc 3 1, 3) := by decide +kernel
theorem dX9_worthOf_29 : decode cX9_worthOf 29 = .ok (.goto (-25), 3) := by decide +kernel
theorem dX9_worthOf_32 : decode cX9_worthOf 32 = .ok (.iload_n 2, 1) := by decide +kernel
theorem dX9_worthOf_33 : decode cX9_worthOf 33 = .ok (.ireturn, 1) := by decide +kernel
theorem dX9_mostWorthAt_0 : decode cX9_mostWorthAt 0 = .ok (.iconst 0, 1) := by decide +kernel
theorem dX9_mostWorthAt_1 : decode cX9_mostWorthAt 1 = .ok (.istore_n 2, 1) := by decide +kernel
theorem dX9_mostWorthAt_2 : decode cX9_mostWorthAt 2 = .ok (.aload_n 0, 1) := by decide +kernel
theorem dX9_mostWorthAt_3 : decode cX9_mostWorthAt 3 = .ok (.getfield 9, 3) := by decide +kernel
theorem dX9_mostWorthAt_6 : decode cX9_mostWorthAt 6 = .ok (.getfield 58, 3) := by decide +kernel
theorem dX9_mostWorthAt_9 : decode cX9_mostWorthAt 9 = .ok (.iload_n 1, 1) := by decide +kernel
theorem dX9_mostWorthAt_10 : decode cX9_mostWorthAt 10 = .ok (.iaload, 1) := by decide +kernel
theorem dX9_mostWorthAt_11 : decode cX9_mostWorthAt 11 = .ok (.istore_n 3, 1) := by decide +kernel
theorem dX9_mostWorthAt_12 : decode cX9_mostWorthAt 12 = .ok (.iload_n 3, 1) := by decide +kernel
theorem dX9_mostWorthAt_13 : decode cX9_mostWorthAt 13 = .ok (.aload_n 0, 1) := by decide +kernel
theorem dX9_mostWorthAt_14 : decode cX9_mostWorthAt 14 = .ok (.getfield 9, 3) := by decide +kernel
theorem dX9_mostWorthAt_17 : decode cX9_mostWorthAt 17 = .ok (.getfield 61, 3) := by decide +kernel
theorem dX9_mostWorthAt_20 : decode cX9_mostWorthAt 20 = .ok (.iload_n 1, 1) := by decide +kernel
theorem dX9_mostWorthAt_21 : decode cX9_mostWorthAt 21 = .ok (.iaload, 1) := by decide +kernel
theorem dX9_mostWorthAt_22 : decode cX9_mostWorthAt 22 = .ok (.if_icmp .gt 32, 3) := by decide +kernel
theorem dX9_mostWorthAt_25 : decode cX9_mostWorthAt 25 = .ok (.aload_n 0, 1) := by decide +kernel
theorem dX9_mostWorthAt_26 : decode cX9_mostWorthAt 26 = .ok (.getfield 9, 3) := by decide +kernel
theorem dX9_mostWorthAt_29 : decode cX9_mostWorthAt 29 = .ok (.iload_n 1, 1) := by decide +kernel
theorem dX9_mostWorthAt_30 : decode cX9_mostWorthAt 30 = .ok (.iload_n 3, 1) := by decide +kernel
theorem dX9_mostWorthAt_31 : decode cX9_mostWorthAt 31 = .ok (.invokevirtual 64, 3) := by decide +kernel
theorem dX9_mostWorthAt_34 : decode cX9_mostWorthAt 34 = .ok (.ifCond .eq 14, 3) := by decide +kernel
theorem dX9_mostWorthAt_37 : decode cX9_mostWorthAt 37 = .ok (.iload_n 2, 1) := by decide +kernel
theorem dX9_mostWorthAt_38 : decode cX9_mostWorthAt 38 = .ok (.aload_n 0, 1) := by decide +kernel
theorem dX9_mostWorthAt_39 : decode cX9_mostWorthAt 39 = .ok (.iload_n 1, 1) := by decide +kernel
theorem dX9_mostWorthAt_40 : decode cX9_mostWorthAt 40 = .ok (.iload_n 3, 1) := by decide +kernel
theorem dX9_mostWorthAt_41 : decode cX9_mostWorthAt 41 = .ok (.invokevirtual 55, 3) := by decide +kernel
theorem dX9_mostWorthAt_44 : decode cX9_mostWorthAt 44 = .ok (.invokestatic 67, 3) := by decide +kernel
theorem dX9_mostWorthAt_47 : decode cX9_mostWorthAt 47 = .ok (.istore_n 2, 1) := by decide +kernel
theorem dX9_mostWorthAt_48 : decode cX9_mostWorthAt 48 = .ok (.iinc 3 1, 3) := by decide +kernel
theorem dX9_mostWorthAt_51 : decode cX9_mostWorthAt 51 = .ok (.goto (-39), 3) := by decide +kernel
theorem dX9_mostWorthAt_54 : decode cX9_mostWorthAt 54 = .ok (.iload_n 2, 1) := by decide +kernel
theorem dX9_mostWorthAt_55 : decode cX9_mostWorthAt 55 = .ok (.ireturn, 1) := by decide +kernel
theorem dX9_movedBits_0 : decode cX9_movedBits 0 = .ok (.iconst 0, 1) := by decide +kernel
theorem dX9_movedBits_1 : decode cX9_movedBits 1 = .ok (.istore_n 2, 1) := by decide +kernel
theorem dX9_movedBits_2 : decode cX9_movedBits 2 = .ok (.iconst 0, 1) := by decide +kernel
theorem dX9_movedBits_3 : decode cX9_movedBits 3 = .ok (.istore_n 3, 1) := by decide +kernel
theorem dX9_movedBits_4 : decode cX9_movedBits 4 = .ok (.iload_n 3, 1) := by decide +kernel
theorem dX9_movedBits_5 : decode cX9_movedBits 5 = .ok (.aload_n 0, 1) := by decide +kernel
theorem dX9_movedBits_6 : decode cX9_movedBits 6 = .ok (.getfield 9, 3) := by decide +kernel
theorem dX9_movedBits_9 : decode cX9_movedBits 9 = .ok (.getfield 43, 3) := by decide +kernel
theorem dX9_movedBits_12 : decode cX9_movedBits 12 = .ok (.if_icmp .ge 29, 3) := by decide +kernel
theorem dX9_movedBits_15 : decode cX9_movedBits 15 = .ok (.aload_n 0, 1) := by decide +kernel
theorem dX9_movedBits_16 : decode cX9_movedBits 16 = .ok (.getfield 15, 3) := by decide +kernel
theorem dX9_movedBits_19 : decode cX9_movedBits 19 = .ok (.iload_n 3, 1) := by decide +kernel
theorem dX9_movedBits_20 : decode cX9_movedBits 20 = .ok (.aload_n 1, 1) := by decide +kernel
theorem dX9_movedBits_21 : decode cX9_movedBits 21 = .ok (.iload_n 3, 1) := by decide +kernel
theorem dX9_movedBits_22 : decode cX9_movedBits 22 = .ok (.iaload, 1) := by decide +kernel
theorem dX9_movedBits_23 : decode cX9_movedBits 23 = .ok (.invokevirtual 19, 3) := by decide +kernel
theorem dX9_movedBits_26 : decode cX9_movedBits 26 = .ok (.ifCond .eq 9, 3) := by decide +kernel
theorem dX9_movedBits_29 : decode cX9_movedBits 29 = .ok (.iload_n 2, 1) := by decide +kernel
theorem dX9_movedBits_30 : decode cX9_movedBits 30 = .ok (.iconst 1, 1) := by decide +kernel
theorem dX9_movedBits_31 : decode cX9_movedBits 31 = .ok (.iload_n 3, 1) := by decide +kernel
theorem dX9_movedBits_32 : decode cX9_movedBits 32 = .ok (.ishl, 1) := by decide +kernel
theorem dX9_movedBits_33 : decode cX9_movedBits 33 = .ok (.ior, 1) := by decide +kernel
theorem dX9_movedBits_34 : decode cX9_movedBits 34 = .ok (.istore_n 2, 1) := by decide +kernel
theorem dX9_movedBits_35 : decode cX9_movedBits 35 = .ok (.iinc 3 1, 3) := by decide +kernel
theorem dX9_movedBits_38 : decode cX9_movedBits 38 = .ok (.goto (-34), 3) := by decide +kernel
theorem dX9_movedBits_41 : decode cX9_movedBits 41 = .ok (.iload_n 2, 1) := by decide +kernel
theorem dX9_movedBits_42 : decode cX9_movedBits 42 = .ok (.ireturn, 1) := by decide +kernel
theorem dX9_isAllowed_0 : decode cX9_isAllowed 0 = .ok (.iconst 0, 1) := by decide +kernel
theorem dX9_isAllowed_1 : decode cX9_isAllowed 1 = .ok (.istore_n 2, 1) := by decide +kernel
theorem dX9_isAllowed_2 : decode cX9_isAllowed 2 = .ok (.iload_n 2, 1) := by decide +kernel
theorem dX9_isAllowed_3 : decode cX9_isAllowed 3 = .ok (.aload_n 0, 1) := by decide +kernel
theorem dX9_isAllowed_4 : decode cX9_isAllowed 4 = .ok (.getfield 9, 3) := by decide +kernel
theorem dX9_isAllowed_7 : decode cX9_isAllowed 7 = .ok (.getfield 43, 3) := by decide +kernel
theorem dX9_isAllowed_10 : decode cX9_isAllowed 10 = .ok (.if_icmp .ge 25, 3) := by decide +kernel
theorem dX9_isAllowed_13 : decode cX9_isAllowed 13 = .ok (.aload_n 0, 1) := by decide +kernel
theorem dX9_isAllowed_14 : decode cX9_isAllowed 14 = .ok (.getfield 9, 3) := by decide +kernel
theorem dX9_isAllowed_17 : decode cX9_isAllowed 17 = .ok (.iload_n 2, 1) := by decide +kernel
theorem dX9_isAllowed_18 : decode cX9_isAllowed 18 = .ok (.aload_n 1, 1) := by decide +kernel
theorem dX9_isAllowed_19 : decode cX9_isAllowed 19 = .ok (.iload_n 2, 1) := by decide +kernel
theorem dX9_isAllowed_20 : decode cX9_isAllowed 20 = .ok (.iaload, 1) := by decide +kernel
theorem dX9_isAllowed_21 : decode cX9_isAllowed 21 = .ok (.invokevirtual 64, 3) := by decide +kernel
theorem dX9_isAllowed_24 : decode cX9_isAllowed 24 = .ok (.ifCond .ne 5, 3) := by decide +kernel
theorem dX9_isAllowed_27 : decode cX9_isAllowed 27 = .ok (.iconst 0, 1) := by decide +kernel
theorem dX9_isAllowed_28 : decode cX9_isAllowed 28 = .ok (.ireturn, 1) := by decide +kernel
theorem dX9_isAllowed_29 : decode cX9_isAllowed 29 = .ok (.iinc 2 1, 3) := by decide +kernel
theorem dX9_isAllowed_32 : decode cX9_isAllowed 32 = .ok (.goto (-30), 3) := by decide +kernel
theorem dX9_isAllowed_35 : decode cX9_isAllowed 35 = .ok (.iconst 0, 1) := by decide +kernel
theorem dX9_isAllowed_36 : decode cX9_isAllowed 36 = .ok (.istore_n 2, 1) := by decide +kernel
theorem dX9_isAllowed_37 : decode cX9_isAllowed 37 = .ok (.iload_n 2, 1) := by decide +kernel
theorem dX9_isAllowed_38 : decode cX9_isAllowed 38 = .ok (.iconst 4, 1) := by decide +kernel
theorem dX9_isAllowed_39 : decode cX9_isAllowed 39 = .ok (.if_icmp .ge 29, 3) := by decide +kernel
theorem dX9_isAllowed_42 : decode cX9_isAllowed 42 = .ok (.aload_n 0, 1) := by decide +kernel
theorem dX9_isAllowed_43 : decode cX9_isAllowed 43 = .ok (.iload_n 2, 1) := by decide +kernel
theorem dX9_isAllowed_44 : decode cX9_isAllowed 44 = .ok (.aload_n 1, 1) := by decide +kernel
theorem dX9_isAllowed_45 : decode cX9_isAllowed 45 = .ok (.invokevirtual 70, 3) := by decide +kernel
theorem dX9_isAllowed_48 : decode cX9_isAllowed 48 = .ok (.aload_n 0, 1) := by decide +kernel
theorem dX9_isAllowed_49 : decode cX9_isAllowed 49 = .ok (.getfield 9, 3) := by decide +kernel
theorem dX9_isAllowed_52 : decode cX9_isAllowed 52 = .ok (.getfield 74, 3) := by decide +kernel
theorem dX9_isAllowed_55 : decode cX9_isAllowed 55 = .ok (.iload_n 2, 1) := by decide +kernel
theorem dX9_isAllowed_56 : decode cX9_isAllowed 56 = .ok (.iaload, 1) := by decide +kernel
theorem dX9_isAllowed_57 : decode cX9_isAllowed 57 = .ok (.if_icmp .le 5, 3) := by decide +kernel
theorem dX9_isAllowed_60 : decode cX9_isAllowed 60 = .ok (.iconst 0, 1) := by decide +kernel
theorem dX9_isAllowed_61 : decode cX9_isAllowed 61 = .ok (.ireturn, 1) := by decide +kernel
theorem dX9_isAllowed_62 : decode cX9_isAllowed 62 = .ok (.iinc 2 1, 3) := by decide +kernel
theorem dX9_isAllowed_65 : decode cX9_isAllowed 65 = .ok (.goto (-28), 3) := by decide +kernel
theorem dX9_isAllowed_68 : decode cX9_isAllowed 68 = .ok (.iconst 1, 1) := by decide +kernel
theorem dX9_isAllowed_69 : decode cX9_isAllowed 69 = .ok (.ireturn, 1) := by decide +kernel
theorem dX9_movedOf_0 : decode cX9_movedOf 0 = .ok (.iconst 0, 1) := by decide +kernel
theorem dX9_movedOf_1 : decode cX9_movedOf 1 = .ok (.istore_n 3, 1) := by decide +kernel
theorem dX9_movedOf_2 : decode cX9_movedOf 2 = .ok (.iconst 0, 1) := by decide +kernel
theorem dX9_movedOf_3 : decode cX9_movedOf 3 = .ok (.istore 4, 2) := by decide +kernel
theorem dX9_movedOf_5 : decode cX9_movedOf 5 = .ok (.iload 4, 2) := by decide +kernel
theorem dX9_movedOf_7 : decode cX9_movedOf 7 = .ok (.aload_n 0, 1) := by decide +kernel
theorem dX9_movedOf_8 : decode cX9_movedOf 8 = .ok (.getfield 9, 3) := by decide +kernel
theorem dX9_movedOf_11 : decode cX9_movedOf 11 = .ok (.getfield 43, 3) := by decide +kernel
theorem dX9_movedOf_14 : decode cX9_movedOf 14 = .ok (.if_icmp .ge 42, 3) := by decide +kernel
theorem dX9_movedOf_17 : decode cX9_movedOf 17 = .ok (.aload_n 0, 1) := by decide +kernel
theorem dX9_movedOf_18 : decode cX9_movedOf 18 = .ok (.getfield 9, 3) := by decide +kernel
theorem dX9_movedOf_21 : decode cX9_movedOf 21 = .ok (.getfield 77, 3) := by decide +kernel
theorem dX9_movedOf_24 : decode cX9_movedOf 24 = .ok (.iload 4, 2) := by decide +kernel
theorem dX9_movedOf_26 : decode cX9_movedOf 26 = .ok (.iaload, 1) := by decide +kernel
theorem dX9_movedOf_27 : decode cX9_movedOf 27 = .ok (.iload_n 1, 1) := by decide +kernel
theorem dX9_movedOf_28 : decode cX9_movedOf 28 = .ok (.if_icmp .ne 22, 3) := by decide +kernel
theorem dX9_movedOf_31 : decode cX9_movedOf 31 = .ok (.aload_n 0, 1) := by decide +kernel
theorem dX9_movedOf_32 : decode cX9_movedOf 32 = .ok (.getfield 15, 3) := by decide +kernel
theorem dX9_movedOf_35 : decode cX9_movedOf 35 = .ok (.iload 4, 2) := by decide +kernel
theorem dX9_movedOf_37 : decode cX9_movedOf 37 = .ok (.aload_n 2, 1) := by decide +kernel
theorem dX9_movedOf_38 : decode cX9_movedOf 38 = .ok (.iload 4, 2) := by decide +kernel
theorem dX9_movedOf_40 : decode cX9_movedOf 40 = .ok (.iaload, 1) := by decide +kernel
theorem dX9_movedOf_41 : decode cX9_movedOf 41 = .ok (.invokevirtual 19, 3) := by decide +kernel
theorem dX9_movedOf_44 : decode cX9_movedOf 44 = .ok (.ifCond .eq 6, 3) := by decide +kernel
theorem dX9_movedOf_47 : decode cX9_movedOf 47 = .ok (.iinc 3 1, 3) := by decide +kernel
theorem dX9_movedOf_50 : decode cX9_movedOf 50 = .ok (.iinc 4 1, 3) := by decide +kernel
theorem dX9_movedOf_53 : decode cX9_movedOf 53 = .ok (.goto (-48), 3) := by decide +kernel
theorem dX9_movedOf_56 : decode cX9_movedOf 56 = .ok (.iload_n 3, 1) := by decide +kernel
theorem dX9_movedOf_57 : decode cX9_movedOf 57 = .ok (.ireturn, 1) := by decide +kernel
theorem dX10_init_0 : decode cX10_init 0 = .ok (.aload_n 0, 1) := by decide +kernel
theorem dX10_init_1 : decode cX10_init 1 = .ok (.invokespecial 3, 3) := by decide +kernel
theorem dX10_init_4 : decode cX10_init 4 = .ok (.aload_n 0, 1) := by decide +kernel
theorem dX10_init_5 : decode cX10_init 5 = .ok (.bipush 6, 2) := by decide +kernel
theorem dX10_init_7 : decode cX10_init 7 = .ok (.newarray .int, 2) := by decide +kernel
theorem dX10_init_9 : decode cX10_init 9 = .ok (.putfield 9, 3) := by decide +kernel
theorem dX10_init_12 : decode cX10_init 12 = .ok (.aload_n 0, 1) := by decide +kernel
theorem dX10_init_13 : decode cX10_init 13 = .ok (.iconst 4, 1) := by decide +kernel
theorem dX10_init_14 : decode cX10_init 14 = .ok (.newarray .int, 2) := by decide +kernel
theorem dX10_init_16 : decode cX10_init 16 = .ok (.putfield 15, 3) := by decide +kernel
theorem dX10_init_19 : decode cX10_init 19 = .ok (.aload_n 0, 1) := by decide +kernel
theorem dX10_init_20 : decode cX10_init 20 = .ok (.iconst 0, 1) := by decide +kernel
theorem dX10_init_21 : decode cX10_init 21 = .ok (.putfield 18, 3) := by decide +kernel
theorem dX10_init_24 : decode cX10_init 24 = .ok (.aload_n 0, 1) := by decide +kernel
theorem dX10_init_25 : decode cX10_init 25 = .ok (.iconst 4, 1) := by decide +kernel
theorem dX10_init_26 : decode cX10_init 26 = .ok (.newarray .int, 2) := by decide +kernel
theorem dX10_init_28 : decode cX10_init 28 = .ok (.putfield 22, 3) := by decide +kernel
theorem dX10_init_31 : decode cX10_init 31 = .ok (.aload_n 0, 1) := by decide +kernel
theorem dX10_init_32 : decode cX10_init 32 = .ok (.bipush 6, 2) := by decide +kernel
theorem dX10_init_34 : decode cX10_init 34 = .ok (.newarray .int, 2) := by decide +kernel
theorem dX10_init_36 : decode cX10_init 36 = .ok (.putfield 25, 3) := by decide +kernel
theorem dX10_init_39 : decode cX10_init 39 = .ok (.aload_n 0, 1) := by decide +kernel
theorem dX10_init_40 : decode cX10_init 40 = .ok (.bipush 7, 2) := by decide +kernel
theorem dX10_init_42 : decode cX10_init 42 = .ok (.newarray .int, 2) := by decide +kernel
theorem dX10_init_44 : decode cX10_init 44 = .ok (.putfield 28, 3) := by decide +kernel
theorem dX10_init_47 : decode cX10_init 47 = .ok (.aload_n 0, 1) := by decide +kernel
theorem dX10_init_48 : decode cX10_init 48 = .ok (.aload_n 1, 1) := by decide +kernel
theorem dX10_init_49 : decode cX10_init 49 = .ok (.putfield 31, 3) := by decide +kernel
theorem dX10_init_52 : decode cX10_init 52 = .ok (.aload_n 0, 1) := by decide +kernel
theorem dX10_init_53 : decode cX10_init 53 = .ok (.aload_n 2, 1) := by decide +kernel
theorem dX10_init_54 : decode cX10_init 54 = .ok (.putfield 35, 3) := by decide +kernel
theorem dX10_init_57 : decode cX10_init 57 = .ok (.aload_n 0, 1) := by decide +kernel
theorem dX10_init_58 : decode cX10_init 58 = .ok (.aload_n 3, 1) := by decide +kernel
theorem dX10_init_59 : decode cX10_init 59 = .ok (.putfield 39, 3) := by decide +kernel
theorem dX10_init_62 : decode cX10_init 62 = .ok (.aload_n 0, 1) := by decide +kernel
theorem dX10_init_63 : decode cX10_init 63 = .ok (.aload 4, 2) := by decide +kernel
theorem dX10_init_65 : decode cX10_init 65 = .ok (.putfield 43, 3) := by decide +kernel
theorem dX10_init_68 : decode cX10_init 68 = .ok (.return_, 1) := by decide +kernel
theorem dX10_asNow_0 : decode cX10_asNow 0 = .ok (.aload_n 0, 1) := by decide +kernel
theorem dX10_asNow_1 : decode cX10_asNow 1 = .ok (.getfield 35, 3) := by decide +kernel
theorem dX10_asNow_4 : decode cX10_asNow 4 = .ok (.getfield 47, 3) := by decide +kernel
theorem dX10_asNow_7 : decode cX10_asNow 7 = .ok (.iconst 0, 1) := by decide +kernel
theorem dX10_asNow_8 : decode cX10_asNow 8 = .ok (.aload_n 0, 1) := by decide +kernel
theorem dX10_asNow_9 : decode cX10_asNow 9 = .ok (.getfield 9, 3) := by decide +kernel
theorem dX10_asNow_12 : decode cX10_asNow 12 = .ok (.iconst 0, 1) := by decide +kernel
theorem dX10_asNow_13 : decode cX10_asNow 13 = .ok (.bipush 6, 2) := by decide +kernel
theorem dX10_asNow_15 : decode cX10_asNow 15 = .ok (.invokestatic 50, 3) := by decide +kernel
theorem dX10_asNow_18 : decode cX10_asNow 18 = .ok (.aload_n 0, 1) := by decide +kernel
theorem dX10_asNow_19 : decode cX10_asNow 19 = .ok (.getfield 31, 3) := by decide +kernel
theorem dX10_asNow_22 : decode cX10_asNow 22 = .ok (.getfield 56, 3) := by decide +kernel
theorem dX10_asNow_25 : decode cX10_asNow 25 = .ok (.iconst 0, 1) := by decide +kernel
theorem dX10_asNow_26 : decode cX10_asNow 26 = .ok (.aload_n 0, 1) := by decide +kernel
theorem dX10_asNow_27 : decode cX10_asNow 27 = .ok (.getfield 15, 3) := by decide +kernel
theorem dX10_asNow_30 : decode cX10_asNow 30 = .ok (.iconst 0, 1) := by decide +kernel
theorem dX10_asNow_31 : decode cX10_asNow 31 = .ok (.iconst 4, 1) := by decide +kernel
theorem dX10_asNow_32 : decode cX10_asNow 32 = .ok (.invokestatic 50, 3) := by decide +kernel
theorem dX10_asNow_35 : decode cX10_asNow 35 = .ok (.aload_n 0, 1) := by decide +kernel
theorem dX10_asNow_36 : decode cX10_asNow 36 = .ok (.iconst 1, 1) := by decide +kernel
theorem dX10_asNow_37 : decode cX10_asNow 37 = .ok (.aload_n 0, 1) := by decide +kernel
theorem dX10_asNow_38 : decode cX10_asNow 38 = .ok (.getfield 35, 3) := by decide +kernel
theorem dX10_asNow_41 : decode cX10_asNow 41 = .ok (.getfield 59, 3) := by decide +kernel
theorem dX10_asNow_44 : decode cX10_asNow 44 = .ok (.ishl, 1) := by decide +kernel
theorem dX10_asNow_45 : decode cX10_asNow 45 = .ok (.iconst 1, 1) := by decide +kernel
theorem dX10_asNow_46 : decode cX10_asNow 46 = .ok (.isub, 1) := by decide +kernel
theorem dX10_asNow_47 : decode cX10_asNow 47 = .ok (.putfield 18, 3) := by decide +kernel
theorem dX10_asNow_50 : decode cX10_asNow 50 = .ok (.return_, 1) := by decide +kernel
theorem dX10_leaveOut_0 : decode cX10_leaveOut 0 = .ok (.aload_n 0, 1) := by decide +kernel
theorem dX10_leaveOut_1 : decode cX10_leaveOut 1 = .ok (.dup, 1) := by decide +kernel
theorem dX10_leaveOut_2 : decode cX10_leaveOut 2 = .ok (.getfield 18, 3) := by decide +kernel
theorem dX10_leaveOut_5 : decode cX10_leaveOut 5 = .ok (.iconst 1, 1) := by decide +kernel
theorem dX10_leaveOut_6 : decode cX10_leaveOut 6 = .ok (.iload_n 1, 1) := by decide +kernel
theorem dX10_leaveOut_7 : decode cX10_leaveOut 7 = .ok (.ishl, 1) := by decide +kernel
theorem dX10_leaveOut_8 : decode cX10_leaveOut 8 = .ok (.iconst (-1), 1) := by decide +kernel
theorem dX10_leaveOut_9 : decode cX10_leaveOut 9 = .ok (.ixor, 1) := by decide +kernel
theorem dX10_leaveOut_10 : decode cX10_leaveOut 10 = .ok (.iand, 1) := by decide +kernel
theorem dX10_leaveOut_11 : decode cX10_leaveOut 11 = .ok (.putfield 18, 3) := by decide +kernel
theorem dX10_leaveOut_14 : decode cX10_leaveOut 14 = .ok (.return_, 1) := by decide +kernel
theorem dX10_hold_0 : decode cX10_hold 0 = .ok (.aload_n 0, 1) := by decide +kernel
theorem dX10_hold_1 : decode cX10_hold 1 = .ok (.getfield 15, 3) := by decide +kernel
theorem dX10_hold_4 : decode cX10_hold 4 = .ok (.iload_n 1, 1) := by decide +kernel
theorem dX10_hold_5 : decode cX10_hold 5 = .ok (.iconst 0, 1) := by decide +kernel
theorem dX10_hold_6 : decode cX10_hold 6 = .ok (.iastore, 1) := by decide +kernel
theorem dX10_hold_7 : decode cX10_hold 7 = .ok (.return_, 1) := by decide +kernel
theorem dX10_turnBack_0 : decode cX10_turnBack 0 = .ok (.aload_n 0, 1) := by decide +kernel
theorem dX10_turnBack_1 : decode cX10_turnBack 1 = .ok (.getfield 9, 3) := by decide +kernel
theorem dX10_turnBack_4 : decode cX10_turnBack 4 = .ok (.iload_n 1, 1) := by decide +kernel
theorem dX10_turnBack_5 : decode cX10_turnBack 5 = .ok (.aload_n 0, 1) := by decide +kernel
theorem dX10_turnBack_6 : decode cX10_turnBack 6 = .ok (.getfield 39, 3) := by decide +kernel
theorem dX10_turnBack_9 : decode cX10_turnBack 9 = .ok (.iload_n 1, 1) := by decide +kernel
theorem dX10_turnBack_10 : decode cX10_turnBack 10 = .ok (.invokevirtual 62, 3) := by decide +kernel
theorem dX10_turnBack_13 : decode cX10_turnBack 13 = .ok (.iastore, 1) := by decide +kernel
theorem dX10_turnBack_14 : decode cX10_turnBack 14 = .ok (.return_, 1) := by decide +kernel
theorem dX10_seek_0 : decode cX10_seek 0 = .ok (.aload_n 0, 1) := by decide +kernel
theorem dX10_seek_1 : decode cX10_seek 1 = .ok (.getfield 28, 3) := by decide +kernel
theorem dX10_seek_4 : decode cX10_seek 4 = .ok (.aload_n 0, 1) := by decide +kernel
theorem dX10_seek_5 : decode cX10_seek 5 = .ok (.getfield 31, 3) := by decide +kernel
theorem dX10_seek_8 : decode cX10_seek 8 = .ok (.getfield 68, 3) := by decide +kernel
theorem dX10_seek_11 : decode cX10_seek 11 = .ok (.iconst 0, 1) := by decide +kernel
theorem dX10_seek_12 : decode cX10_seek 12 = .ok (.iastore, 1) := by decide +kernel
theorem dX10_seek_13 : decode cX10_seek 13 = .ok (.aload_n 0, 1) := by decide +kernel
theorem dX10_seek_14 : decode cX10_seek 14 = .ok (.getfield 31, 3) := by decide +kernel
theorem dX10_seek_17 : decode cX10_seek 17 = .ok (.getfield 68, 3) := by decide +kernel
theorem dX10_seek_20 : decode cX10_seek 20 = .ok (.iconst 1, 1) := by decide +kernel
theorem dX10_seek_21 : decode cX10_seek 21 = .ok (.isub, 1) := by decide +kernel
theorem dX10_seek_22 : decode cX10_seek 22 = .ok (.istore_n 2, 1) := by decide +kernel
theorem dX10_seek_23 : decode cX10_seek 23 = .ok (.iload_n 2, 1) := by decide +kernel
theorem dX10_seek_24 : decode cX10_seek 24 = .ok (.ifCond .lt 32, 3) := by decide +kernel
theorem dX10_seek_27 : decode cX10_seek 27 = .ok (.aload_n 0, 1) := by decide +kernel
theorem dX10_seek_28 : decode cX10_seek 28 = .ok (.getfield 28, 3) := by decide +kernel
theorem dX10_seek_31 : decode cX10_seek 31 = .ok (.iload_n 2, 1) := by decide +kernel
theorem dX10_seek_32 : decode cX10_seek 32 = .ok (.aload_n 0, 1) := by decide +kernel
theorem dX10_seek_33 : decode cX10_seek 33 = .ok (.getfield 28, 3) := by decide +kernel
theorem dX10_seek_36 : decode cX10_seek 36 = .ok (.iload_n 2, 1) := by decide +kernel
theorem dX10_seek_37 : decode cX10_seek 37 = .ok (.iconst 1, 1) := by decide +kernel
theorem dX10_seek_38 : decode cX10_seek 38 = .ok (.iadd, 1) := by decide +kernel
theorem dX10_seek_39 : decode cX10_seek 39 = .ok (.iaload, 1) := by decide +kernel
theorem dX10_seek_40 : decode cX10_seek 40 = .ok (.aload_n 0, 1) := by decide +kernel
theorem dX10_seek_41 : decode cX10_seek 41 = .ok (.getfield 43, 3) := by decide +kernel
theorem dX10_seek_44 : decode cX10_seek 44 = .ok (.iload_n 2, 1) := by decide +kernel
theorem dX10_seek_45 : decode cX10_seek 45 = .ok (.invokevirtual 69, 3) := by decide +kernel
theorem dX10_seek_48 : decode cX10_seek 48 = .ok (.iadd, 1) := by decide +kernel
theorem dX10_seek_49 : decode cX10_seek 49 = .ok (.iastore, 1) := by decide +kernel
theorem dX10_seek_50 : decode cX10_seek 50 = .ok (.iinc 2 (-1), 3) := by decide +kernel
theorem dX10_seek_53 : decode cX10_seek 53 = .ok (.goto (-30), 3) := by decide +kernel
theorem dX10_seek_56 : decode cX10_seek 56 = .ok (.iconst 0, 1) := by decide +kernel
theorem dX10_seek_57 : decode cX10_seek 57 = .ok (.istore_n 2, 1) := by decide +kernel
theorem dX10_seek_58 : decode cX10_seek 58 = .ok (.iload_n 2, 1) := by decide +kernel
theorem dX10_seek_59 : decode cX10_seek 59 = .ok (.iconst 4, 1) := by decide +kernel
theorem dX10_seek_60 : decode cX10_seek 60 = .ok (.if_icmp .ge 16, 3) := by decide +kernel
theorem dX10_seek_63 : decode cX10_seek 63 = .ok (.aload_n 0, 1) := by decide +kernel
theorem dX10_seek_64 : decode cX10_seek 64 = .ok (.getfield 22, 3) := by decide +kernel
theorem dX10_seek_67 : decode cX10_seek 67 = .ok (.iload_n 2, 1) := by decide +kernel
theorem dX10_seek_68 : decode cX10_seek 68 = .ok (.iconst 0, 1) := by decide +kernel
theorem dX10_seek_69 : decode cX10_seek 69 = .ok (.iastore, 1) := by decide +kernel
theorem dX10_seek_70 : decode cX10_seek 70 = .ok (.iinc 2 1, 3) := by decide +kernel
theorem dX10_seek_73 : decode cX10_seek 73 = .ok (.goto (-15), 3) := by decide +kernel
theorem dX10_seek_76 : decode cX10_seek 76 = .ok (.aload_n 0, 1) := by decide +kernel
theorem dX10_seek_77 : decode cX10_seek 77 = .ok (.aload_n 1, 1) := by decide +kernel
theorem dX10_seek_78 : decode cX10_seek 78 = .ok (.iconst 0, 1) := by decide +kernel
theorem dX10_seek_79 : decode cX10_seek 79 = .ok (.iconst 0, 1) := by decide +kernel
theorem dX10_seek_80 : decode cX10_seek 80 = .ok (.iconst 0, 1) := by decide +kernel
theorem dX10_seek_81 : decode cX10_seek 81 = .ok (.aload_n 0, 1) := by decide +kernel
theorem dX10_seek_82 : decode cX10_seek 82 = .ok (.getfield 35, 3) := by decide +kernel
theorem dX10_seek_85 : decode cX10_seek 85 = .ok (.aload_n 0, 1) := by decide +kernel
theorem dX10_seek_86 : decode cX10_seek 86 = .ok (.getfield 9, 3) := by decide +kernel
theorem dX10_seek_89 : decode cX10_seek 89 = .ok (.invokevirtual 74, 3) := by decide +kernel
theorem dX10_seek_92 : decode cX10_seek 92 = .ok (.aload_n 0, 1) := by decide +kernel
theorem dX10_seek_93 : decode cX10_seek 93 = .ok (.getfield 18, 3) := by decide +kernel
theorem dX10_seek_96 : decode cX10_seek 96 = .ok (.iand, 1) := by decide +kernel
theorem dX10_seek_97 : decode cX10_seek 97 = .ok (.invokevirtual 78, 3) := by decide +kernel
theorem dX10_seek_100 : decode cX10_seek 100 = .ok (.return_, 1) := by decide +kernel
theorem dX10_choose_0 : decode cX10_choose 0 = .ok (.iload_n 2, 1) := by decide +kernel
theorem dX10_choose_1 : decode cX10_choose 1 = .ok (.aload_n 0, 1) := by decide +kernel
theorem dX10_choose_2 : decode cX10_choose 2 = .ok (.getfield 31, 3) := by decide +kernel
theorem dX10_choose_5 : decode cX10_choose 5 = .ok (.getfield 68, 3) := by decide +kernel
theorem dX10_choose_8 : decode cX10_choose 8 = .ok (.if_icmp .le 4, 3) := by decide +kernel
theorem dX10_choose_11 : decode cX10_choose 11 = .ok (.return_, 1) := by decide +kernel
theorem dX10_choose_12 : decode cX10_choose 12 = .ok (.aload_n 1, 1) := by decide +kernel
theorem dX10_choose_13 : decode cX10_choose 13 = .ok (.iload_n 3, 1) := by decide +kernel
theorem dX10_choose_14 : decode cX10_choose 14 = .ok (.iload 4, 2) := by decide +kernel
theorem dX10_choose_16 : decode cX10_choose 16 = .ok (.aload_n 0, 1) := by decide +kernel
theorem dX10_choose_17 : decode cX10_choose 17 = .ok (.getfield 28, 3) := by decide +kernel
theorem dX10_choose_20 : decode cX10_choose 20 = .ok (.iload_n 2, 1) := by decide +kernel
theorem dX10_choose_21 : decode cX10_choose 21 = .ok (.iaload, 1) := by decide +kernel
theorem dX10_choose_22 : decode cX10_choose 22 = .ok (.iadd, 1) := by decide +kernel
theorem dX10_choose_23 : decode cX10_choose 23 = .ok (.iload 5, 2) := by decide +kernel
theorem dX10_choose_25 : decode cX10_choose 25 = .ok (.invokevirtual 82, 3) := by decide +kernel
theorem dX10_choose_28 : decode cX10_choose 28 = .ok (.ifCond .eq 4, 3) := by decide +kernel
theorem dX10_choose_31 : decode cX10_choose 31 = .ok (.return_, 1) := by decide +kernel
theorem dX10_choose_32 : decode cX10_choose 32 = .ok (.iload_n 2, 1) := by decide +kernel
theorem dX10_choose_33 : decode cX10_choose 33 = .ok (.aload_n 0, 1) := by decide +kernel
theorem dX10_choose_34 : decode cX10_choose 34 = .ok (.getfield 31, 3) := by decide +kernel
theorem dX10_choose_37 : decode cX10_choose 37 = .ok (.getfield 68, 3) := by decide +kernel
theorem dX10_choose_40 : decode cX10_choose 40 = .ok (.if_icmp .ne 17, 3) := by decide +kernel
theorem dX10_choose_43 : decode cX10_choose 43 = .ok (.aload_n 1, 1) := by decide +kernel
theorem dX10_choose_44 : decode cX10_choose 44 = .ok (.aload_n 0, 1) := by decide +kernel
theorem dX10_choose_45 : decode cX10_choose 45 = .ok (.getfield 25, 3) := by decide +kernel
theorem dX10_choose_48 : decode cX10_choose 48 = .ok (.iload_n 3, 1) := by decide +kernel
theorem dX10_choose_49 : decode cX10_choose 49 = .ok (.iload 4, 2) := by decide +kernel
theorem dX10_choose_51 : decode cX10_choose 51 = .ok (.iload 5, 2) := by decide +kernel
theorem dX10_choose_53 : decode cX10_choose 53 = .ok (.invokevirtual 88, 3) := by decide +kernel
theorem dX10_choose_56 : decode cX10_choose 56 = .ok (.return_, 1) := by decide +kernel
theorem dX10_choose_57 : decode cX10_choose 57 = .ok (.aload_n 0, 1) := by decide +kernel
theorem dX10_choose_58 : decode cX10_choose 58 = .ok (.getfield 31, 3) := by decide +kernel
theorem dX10_choose_61 : decode cX10_choose 61 = .ok (.getfield 92, 3) := by decide +kernel
theorem dX10_choose_64 : decode cX10_choose 64 = .ok (.iload_n 2, 1) := by decide +kernel
theorem dX10_choose_65 : decode cX10_choose 65 = .ok (.iaload, 1) := by decide +kernel
theorem dX10_choose_66 : decode cX10_choose 66 = .ok (.istore 6, 2) := by decide +kernel
theorem dX10_choose_68 : decode cX10_choose 68 = .ok (.aload_n 0, 1) := by decide +kernel
theorem dX10_choose_69 : decode cX10_choose 69 = .ok (.getfield 31, 3) := by decide +kernel
theorem dX10_choose_72 : decode cX10_choose 72 = .ok (.getfield 95, 3) := by decide +kernel
theorem dX10_choose_75 : decode cX10_choose 75 = .ok (.iload_n 2, 1) := by decide +kernel
theorem dX10_choose_76 : decode cX10_choose 76 = .ok (.iaload, 1) := by decide +kernel
theorem dX10_choose_77 : decode cX10_choose 77 = .ok (.istore 7, 2) := by decide +kernel
theorem dX10_choose_79 : decode cX10_choose 79 = .ok (.iload 7, 2) := by decide +kernel
theorem dX10_choose_81 : decode cX10_choose 81 = .ok (.aload_n 0, 1) := by decide +kernel
theorem dX10_choose_82 : decode cX10_choose 82 = .ok (.getfield 31, 3) := by decide +kernel
theorem dX10_choose_85 : decode cX10_choose 85 = .ok (.getfield 98, 3) := by decide +kernel
theorem dX10_choose_88 : decode cX10_choose 88 = .ok (.iload_n 2, 1) := by decide +kernel
theorem dX10_choose_89 : decode cX10_choose 89 = .ok (.iaload, 1) := by decide +kernel
theorem dX10_choose_90 : decode cX10_choose 90 = .ok (.if_icmp .gt 158, 3) := by decide +kernel
theorem dX10_choose_93 : decode cX10_choose 93 = .ok (.aload_n 0, 1) := by decide +kernel
theorem dX10_choose_94 : decode cX10_choose 94 = .ok (.getfield 39, 3) := by decide +kernel
theorem dX10_choose_97 : decode cX10_choose 97 = .ok (.iload_n 2, 1) := by decide +kernel
theorem dX10_choose_98 : decode cX10_choose 98 = .ok (.iload 7, 2) := by decide +kernel
theorem dX10_choose_100 : decode cX10_choose 100 = .ok (.invokevirtual 101, 3) := by decide +kernel
theorem dX10_choose_103 : decode cX10_choose 103 = .ok (.ifCond .eq 7, 3) := by decide +kernel
theorem dX10_choose_106 : decode cX10_choose 106 = .ok (.iconst 1, 1) := by decide +kernel
theorem dX10_choose_107 : decode cX10_choose 107 = .ok (.goto 4, 3) := by decide +kernel
theorem dX10_choose_110 : decode cX10_choose 110 = .ok (.iconst 0, 1) := by decide +kernel
theorem dX10_choose_111 : decode cX10_choose 111 = .ok (.istore 8, 2) := by decide +kernel
theorem dX10_choose_113 : decode cX10_choose 113 = .ok (.aload_n 0, 1) := by decide +kernel
theorem dX10_choose_114 : decode cX10_choose 114 = .ok (.getfield 31, 3) := by decide +kernel
theorem dX10_choose_117 : decode cX10_choose 117 = .ok (.iload_n 2, 1) := by decide +kernel
theorem dX10_choose_118 : decode cX10_choose 118 = .ok (.iload 7, 2) := by decide +kernel
theorem dX10_choose_120 : decode cX10_choose 120 = .ok (.invokevirtual 105, 3) := by decide +kernel
theorem dX10_choose_123 : decode cX10_choose 123 = .ok (.ifCond .eq 119, 3) := by decide +kernel
theorem dX10_choose_126 : decode cX10_choose 126 = .ok (.aload_n 0, 1) := by decide +kernel
theorem dX10_choose_127 : decode cX10_choose 127 = .ok (.getfield 22, 3) := by decide +kernel
theorem dX10_choose_130 : decode cX10_choose 130 = .ok (.iload 6, 2) := by decide +kernel
theorem dX10_choose_132 : decode cX10_choose 132 = .ok (.iaload, 1) := by decide +kernel
theorem dX10_choose_133 : decode cX10_choose 133 = .ok (.iload 8, 2) := by decide +kernel
theorem dX10_choose_135 : decode cX10_choose 135 = .ok (.iadd, 1) := by decide +kernel
theorem dX10_choose_136 : decode cX10_choose 136 = .ok (.aload_n 0, 1) := by decide +kernel
theorem dX10_choose_137 : decode cX10_choose 137 = .ok (.getfield 15, 3) := by decide +kernel
theorem dX10_choose_140 : decode cX10_choose 140 = .ok (.iload 6, 2) := by decide +kernel
theorem dX10_choose_142 : decode cX10_choose 142 = .ok (.iaload, 1) := by decide +kernel
theorem dX10_choose_143 : decode cX10_choose 143 = .ok (.if_icmp .le 6, 3) := by decide +kernel
theorem dX10_choose_146 : decode cX10_choose 146 = .ok (.goto 96, 3) := by decide +kernel
theorem dX10_choose_149 : decode cX10_choose 149 = .ok (.aload_n 0, 1) := by decide +kernel
theorem dX10_choose_150 : decode cX10_choose 150 = .ok (.getfield 25, 3) := by decide +kernel
theorem dX10_choose_153 : decode cX10_choose 153 = .ok (.iload_n 2, 1) := by decide +kernel
theorem dX10_choose_154 : decode cX10_choose 154 = .ok (.iload 7, 2) := by decide +kernel
theorem dX10_choose_156 : decode cX10_choose 156 = .ok (.iastore, 1) := by decide +kernel
theorem dX10_choose_157 : decode cX10_choose 157 = .ok (.aload_n 0, 1) := by decide +kernel
theorem dX10_choose_158 : decode cX10_choose 158 = .ok (.getfield 22, 3) := by decide +kernel
theorem dX10_choose_161 : decode cX10_choose 161 = .ok (.iload 6, 2) := by decide +kernel
theorem dX10_choose_163 : decode cX10_choose 163 = .ok (.dup2, 1) := by decide +kernel
theorem dX10_choose_164 : decode cX10_choose 164 = .ok (.iaload, 1) := by decide +kernel
theorem dX10_choose_165 : decode cX10_choose 165 = .ok (.iload 8, 2) := by decide +kernel
theorem dX10_choose_167 : decode cX10_choose 167 = .ok (.iadd, 1) := by decide +kernel
theorem dX10_choose_168 : decode cX10_choose 168 = .ok (.iastore, 1) := by decide +kernel
theorem dX10_choose_169 : decode cX10_choose 169 = .ok (.aload_n 0, 1) := by decide +kernel
theorem dX10_choose_170 : decode cX10_choose 170 = .ok (.getfield 35, 3) := by decide +kernel
theorem dX10_choose_173 : decode cX10_choose 173 = .ok (.aload_n 0, 1) := by decide +kernel
theorem dX10_choose_174 : decode cX10_choose 174 = .ok (.getfield 25, 3) := by decide +kernel
theorem dX10_choose_177 : decode cX10_choose 177 = .ok (.iload_n 2, 1) := by decide +kernel
theorem dX10_choose_178 : decode cX10_choose 178 = .ok (.aload_n 0, 1) := by decide +kernel
theorem dX10_choose_179 : decode cX10_choose 179 = .ok (.getfield 9, 3) := by decide +kernel
theorem dX10_choose_182 : decode cX10_choose 182 = .ok (.invokevirtual 108, 3) := by decide +kernel
theorem dX10_choose_185 : decode cX10_choose 185 = .ok (.aload_n 0, 1) := by decide +kernel
theorem dX10_choose_186 : decode cX10_choose 186 = .ok (.getfield 18, 3) := by decide +kernel
theorem dX10_choose_189 : decode cX10_choose 189 = .ok (.iand, 1) := by decide +kernel
theorem dX10_choose_190 : decode cX10_choose 190 = .ok (.istore 9, 2) := by decide +kernel
theorem dX10_choose_192 : decode cX10_choose 192 = .ok (.aload_n 0, 1) := by decide +kernel
theorem dX10_choose_193 : decode cX10_choose 193 = .ok (.aload_n 1, 1) := by decide +kernel
theorem dX10_choose_194 : decode cX10_choose 194 = .ok (.iload_n 2, 1) := by decide +kernel
theorem dX10_choose_195 : decode cX10_choose 195 = .ok (.iconst 1, 1) := by decide +kernel
theorem dX10_choose_196 : decode cX10_choose 196 = .ok (.iadd, 1) := by decide +kernel
theorem dX10_choose_197 : decode cX10_choose 197 = .ok (.iload_n 3, 1) := by decide +kernel
theorem dX10_choose_198 : decode cX10_choose 198 = .ok (.aload_n 0, 1) := by decide +kernel
theorem dX10_choose_199 : decode cX10_choose 199 = .ok (.getfield 43, 3) := by decide +kernel
theorem dX10_choose_202 : decode cX10_choose 202 = .ok (.iload_n 2, 1) := by decide +kernel
theorem dX10_choose_203 : decode cX10_choose 203 = .ok (.iload 7, 2) := by decide +kernel
theorem dX10_choose_205 : decode cX10_choose 205 = .ok (.invokevirtual 112, 3) := by decide +kernel
theorem dX10_choose_208 : decode cX10_choose 208 = .ok (.iadd, 1) := by decide +kernel
theorem dX10_choose_209 : decode cX10_choose 209 = .ok (.iload 4, 2) := by decide +kernel
theorem dX10_choose_211 : decode cX10_choose 211 = .ok (.aload_n 0, 1) := by decide +kernel
theorem dX10_choose_212 : decode cX10_choose 212 = .ok (.getfield 43, 3) := by decide +kernel
theorem dX10_choose_215 : decode cX10_choose 215 = .ok (.iload_n 2, 1) := by decide +kernel
theorem dX10_choose_216 : decode cX10_choose 216 = .ok (.iload 7, 2) := by decide +kernel
theorem dX10_choose_218 : decode cX10_choose 218 = .ok (.invokevirtual 116, 3) := by decide +kernel
theorem dX10_choose_221 : decode cX10_choose 221 = .ok (.iadd, 1) := by decide +kernel
theorem dX10_choose_222 : decode cX10_choose 222 = .ok (.iload 5, 2) := by decide +kernel
theorem dX10_choose_224 : decode cX10_choose 224 = .ok (.iload 9, 2) := by decide +kernel
theorem dX10_choose_226 : decode cX10_choose 226 = .ok (.ior, 1) := by decide +kernel
theorem dX10_choose_227 : decode cX10_choose 227 = .ok (.invokevirtual 78, 3) := by decide +kernel
theorem dX10_choose_230 : decode cX10_choose 230 = .ok (.aload_n 0, 1) := by decide +kernel
