theorem dX12_firstPlan_2 : decode cX12_firstPlan 2 = .ok (.iload_n 1, 1) := by decide +kernel
theorem dX12_firstPlan_3 : decode cX12_firstPlan 3 = .ok (.aload_n 0, 1) := by decide +kernel
theorem dX12_firstPlan_4 : decode cX12_firstPlan 4 = .ok (.getfield 93, 3) := by decide +kernel
theorem dX12_firstPlan_7 : decode cX12_firstPlan 7 = .ok (.if_icmp .ge 41, 3) := by decide +kernel
theorem dX12_firstPlan_10 : decode cX12_firstPlan 10 = .ok (.aload_n 0, 1) := by decide +kernel
theorem dX12_firstPlan_11 : decode cX12_firstPlan 11 = .ok (.getfield 68, 3) := by decide +kernel
theorem dX12_firstPlan_14 : decode cX12_firstPlan 14 = .ok (.iload_n 1, 1) := by decide +kernel
theorem dX12_firstPlan_15 : decode cX12_firstPlan 15 = .ok (.aload_n 0, 1) := by decide +kernel
theorem dX12_firstPlan_16 : decode cX12_firstPlan 16 = .ok (.getfield 25, 3) := by decide +kernel
theorem dX12_firstPlan_19 : decode cX12_firstPlan 19 = .ok (.iload_n 1, 1) := by decide +kernel
theorem dX12_firstPlan_20 : decode cX12_firstPlan 20 = .ok (.iaload, 1) := by decide +kernel
theorem dX12_firstPlan_21 : decode cX12_firstPlan 21 = .ok (.bipush (-5), 2) := by decide +kernel
theorem dX12_firstPlan_23 : decode cX12_firstPlan 23 = .ok (.if_icmp .ne 12, 3) := by decide +kernel
theorem dX12_firstPlan_26 : decode cX12_firstPlan 26 = .ok (.aload_n 0, 1) := by decide +kernel
theorem dX12_firstPlan_27 : decode cX12_firstPlan 27 = .ok (.getfield 7, 3) := by decide +kernel
theorem dX12_firstPlan_30 : decode cX12_firstPlan 30 = .ok (.iload_n 1, 1) := by decide +kernel
theorem dX12_firstPlan_31 : decode cX12_firstPlan 31 = .ok (.iaload, 1) := by decide +kernel
theorem dX12_firstPlan_32 : decode cX12_firstPlan 32 = .ok (.goto 9, 3) := by decide +kernel
theorem dX12_firstPlan_35 : decode cX12_firstPlan 35 = .ok (.aload_n 0, 1) := by decide +kernel
theorem dX12_firstPlan_36 : decode cX12_firstPlan 36 = .ok (.getfield 25, 3) := by decide +kernel
theorem dX12_firstPlan_39 : decode cX12_firstPlan 39 = .ok (.iload_n 1, 1) := by decide +kernel
theorem dX12_firstPlan_40 : decode cX12_firstPlan 40 = .ok (.iaload, 1) := by decide +kernel
theorem dX12_firstPlan_41 : decode cX12_firstPlan 41 = .ok (.iastore, 1) := by decide +kernel
theorem dX12_firstPlan_42 : decode cX12_firstPlan 42 = .ok (.iinc 1 1, 3) := by decide +kernel
theorem dX12_firstPlan_45 : decode cX12_firstPlan 45 = .ok (.goto (-43), 3) := by decide +kernel
theorem dX12_firstPlan_48 : decode cX12_firstPlan 48 = .ok (.return_, 1) := by decide +kernel
theorem dX12_nextPlan_0 : decode cX12_nextPlan 0 = .ok (.aload_n 0, 1) := by decide +kernel
theorem dX12_nextPlan_1 : decode cX12_nextPlan 1 = .ok (.getfield 93, 3) := by decide +kernel
theorem dX12_nextPlan_4 : decode cX12_nextPlan 4 = .ok (.iconst 1, 1) := by decide +kernel
theorem dX12_nextPlan_5 : decode cX12_nextPlan 5 = .ok (.isub, 1) := by decide +kernel
theorem dX12_nextPlan_6 : decode cX12_nextPlan 6 = .ok (.istore_n 1, 1) := by decide +kernel
theorem dX12_nextPlan_7 : decode cX12_nextPlan 7 = .ok (.iload_n 1, 1) := by decide +kernel
theorem dX12_nextPlan_8 : decode cX12_nextPlan 8 = .ok (.ifCond .lt 79, 3) := by decide +kernel
theorem dX12_nextPlan_11 : decode cX12_nextPlan 11 = .ok (.aload_n 0, 1) := by decide +kernel
theorem dX12_nextPlan_12 : decode cX12_nextPlan 12 = .ok (.getfield 25, 3) := by decide +kernel
theorem dX12_nextPlan_15 : decode cX12_nextPlan 15 = .ok (.iload_n 1, 1) := by decide +kernel
theorem dX12_nextPlan_16 : decode cX12_nextPlan 16 = .ok (.iaload, 1) := by decide +kernel
theorem dX12_nextPlan_17 : decode cX12_nextPlan 17 = .ok (.bipush (-5), 2) := by decide +kernel
theorem dX12_nextPlan_19 : decode cX12_nextPlan 19 = .ok (.if_icmp .ne 30, 3) := by decide +kernel
theorem dX12_nextPlan_22 : decode cX12_nextPlan 22 = .ok (.aload_n 0, 1) := by decide +kernel
theorem dX12_nextPlan_23 : decode cX12_nextPlan 23 = .ok (.getfield 68, 3) := by decide +kernel
theorem dX12_nextPlan_26 : decode cX12_nextPlan 26 = .ok (.iload_n 1, 1) := by decide +kernel
theorem dX12_nextPlan_27 : decode cX12_nextPlan 27 = .ok (.iaload, 1) := by decide +kernel
theorem dX12_nextPlan_28 : decode cX12_nextPlan 28 = .ok (.aload_n 0, 1) := by decide +kernel
theorem dX12_nextPlan_29 : decode cX12_nextPlan 29 = .ok (.getfield 13, 3) := by decide +kernel
theorem dX12_nextPlan_32 : decode cX12_nextPlan 32 = .ok (.iload_n 1, 1) := by decide +kernel
theorem dX12_nextPlan_33 : decode cX12_nextPlan 33 = .ok (.iaload, 1) := by decide +kernel
theorem dX12_nextPlan_34 : decode cX12_nextPlan 34 = .ok (.if_icmp .ge 15, 3) := by decide +kernel
theorem dX12_nextPlan_37 : decode cX12_nextPlan 37 = .ok (.aload_n 0, 1) := by decide +kernel
theorem dX12_nextPlan_38 : decode cX12_nextPlan 38 = .ok (.getfield 68, 3) := by decide +kernel
theorem dX12_nextPlan_41 : decode cX12_nextPlan 41 = .ok (.iload_n 1, 1) := by decide +kernel
theorem dX12_nextPlan_42 : decode cX12_nextPlan 42 = .ok (.dup2, 1) := by decide +kernel
theorem dX12_nextPlan_43 : decode cX12_nextPlan 43 = .ok (.iaload, 1) := by decide +kernel
theorem dX12_nextPlan_44 : decode cX12_nextPlan 44 = .ok (.iconst 1, 1) := by decide +kernel
theorem dX12_nextPlan_45 : decode cX12_nextPlan 45 = .ok (.iadd, 1) := by decide +kernel
theorem dX12_nextPlan_46 : decode cX12_nextPlan 46 = .ok (.iastore, 1) := by decide +kernel
theorem dX12_nextPlan_47 : decode cX12_nextPlan 47 = .ok (.iconst 1, 1) := by decide +kernel
theorem dX12_nextPlan_48 : decode cX12_nextPlan 48 = .ok (.ireturn, 1) := by decide +kernel
theorem dX12_nextPlan_49 : decode cX12_nextPlan 49 = .ok (.aload_n 0, 1) := by decide +kernel
theorem dX12_nextPlan_50 : decode cX12_nextPlan 50 = .ok (.getfield 68, 3) := by decide +kernel
theorem dX12_nextPlan_53 : decode cX12_nextPlan 53 = .ok (.iload_n 1, 1) := by decide +kernel
theorem dX12_nextPlan_54 : decode cX12_nextPlan 54 = .ok (.aload_n 0, 1) := by decide +kernel
theorem dX12_nextPlan_55 : decode cX12_nextPlan 55 = .ok (.getfield 25, 3) := by decide +kernel
theorem dX12_nextPlan_58 : decode cX12_nextPlan 58 = .ok (.iload_n 1, 1) := by decide +kernel
theorem dX12_nextPlan_59 : decode cX12_nextPlan 59 = .ok (.iaload, 1) := by decide +kernel
theorem dX12_nextPlan_60 : decode cX12_nextPlan 60 = .ok (.bipush (-5), 2) := by decide +kernel
theorem dX12_nextPlan_62 : decode cX12_nextPlan 62 = .ok (.if_icmp .ne 12, 3) := by decide +kernel
theorem dX12_nextPlan_65 : decode cX12_nextPlan 65 = .ok (.aload_n 0, 1) := by decide +kernel
theorem dX12_nextPlan_66 : decode cX12_nextPlan 66 = .ok (.getfield 7, 3) := by decide +kernel
theorem dX12_nextPlan_69 : decode cX12_nextPlan 69 = .ok (.iload_n 1, 1) := by decide +kernel
theorem dX12_nextPlan_70 : decode cX12_nextPlan 70 = .ok (.iaload, 1) := by decide +kernel
theorem dX12_nextPlan_71 : decode cX12_nextPlan 71 = .ok (.goto 9, 3) := by decide +kernel
theorem dX12_nextPlan_74 : decode cX12_nextPlan 74 = .ok (.aload_n 0, 1) := by decide +kernel
theorem dX12_nextPlan_75 : decode cX12_nextPlan 75 = .ok (.getfield 25, 3) := by decide +kernel
theorem dX12_nextPlan_78 : decode cX12_nextPlan 78 = .ok (.iload_n 1, 1) := by decide +kernel
theorem dX12_nextPlan_79 : decode cX12_nextPlan 79 = .ok (.iaload, 1) := by decide +kernel
theorem dX12_nextPlan_80 : decode cX12_nextPlan 80 = .ok (.iastore, 1) := by decide +kernel
theorem dX12_nextPlan_81 : decode cX12_nextPlan 81 = .ok (.iinc 1 (-1), 3) := by decide +kernel
theorem dX12_nextPlan_84 : decode cX12_nextPlan 84 = .ok (.goto (-77), 3) := by decide +kernel
theorem dX12_nextPlan_87 : decode cX12_nextPlan 87 = .ok (.iconst 0, 1) := by decide +kernel
theorem dX12_nextPlan_88 : decode cX12_nextPlan 88 = .ok (.ireturn, 1) := by decide +kernel
theorem dX12_findBest_0 : decode cX12_findBest 0 = .ok (.iconst 0, 1) := by decide +kernel
theorem dX12_findBest_1 : decode cX12_findBest 1 = .ok (.istore_n 1, 1) := by decide +kernel
theorem dX12_findBest_2 : decode cX12_findBest 2 = .ok (.iconst 0, 1) := by decide +kernel
theorem dX12_findBest_3 : decode cX12_findBest 3 = .ok (.istore_n 2, 1) := by decide +kernel
theorem dX12_findBest_4 : decode cX12_findBest 4 = .ok (.iconst 0, 1) := by decide +kernel
theorem dX12_findBest_5 : decode cX12_findBest 5 = .ok (.istore_n 3, 1) := by decide +kernel
theorem dX12_findBest_6 : decode cX12_findBest 6 = .ok (.iconst 1, 1) := by decide +kernel
theorem dX12_findBest_7 : decode cX12_findBest 7 = .ok (.istore 4, 2) := by decide +kernel
theorem dX12_findBest_9 : decode cX12_findBest 9 = .ok (.aload_n 0, 1) := by decide +kernel
theorem dX12_findBest_10 : decode cX12_findBest 10 = .ok (.invokevirtual 127, 3) := by decide +kernel
theorem dX12_findBest_13 : decode cX12_findBest 13 = .ok (.iload 4, 2) := by decide +kernel
theorem dX12_findBest_15 : decode cX12_findBest 15 = .ok (.ifCond .eq 161, 3) := by decide +kernel
theorem dX12_findBest_18 : decode cX12_findBest 18 = .ok (.aload_n 0, 1) := by decide +kernel
theorem dX12_findBest_19 : decode cX12_findBest 19 = .ok (.aload_n 0, 1) := by decide +kernel
theorem dX12_findBest_20 : decode cX12_findBest 20 = .ok (.getfield 68, 3) := by decide +kernel
theorem dX12_findBest_23 : decode cX12_findBest 23 = .ok (.invokevirtual 130, 3) := by decide +kernel
theorem dX12_findBest_26 : decode cX12_findBest 26 = .ok (.ifCond .eq 141, 3) := by decide +kernel
theorem dX12_findBest_29 : decode cX12_findBest 29 = .ok (.aload_n 0, 1) := by decide +kernel
theorem dX12_findBest_30 : decode cX12_findBest 30 = .ok (.aload_n 0, 1) := by decide +kernel
theorem dX12_findBest_31 : decode cX12_findBest 31 = .ok (.getfield 68, 3) := by decide +kernel
theorem dX12_findBest_34 : decode cX12_findBest 34 = .ok (.invokevirtual 134, 3) := by decide +kernel
theorem dX12_findBest_37 : decode cX12_findBest 37 = .ok (.ifCond .ne 130, 3) := by decide +kernel
theorem dX12_findBest_40 : decode cX12_findBest 40 = .ok (.aload_n 0, 1) := by decide +kernel
theorem dX12_findBest_41 : decode cX12_findBest 41 = .ok (.aload_n 0, 1) := by decide +kernel
theorem dX12_findBest_42 : decode cX12_findBest 42 = .ok (.getfield 68, 3) := by decide +kernel
theorem dX12_findBest_45 : decode cX12_findBest 45 = .ok (.invokevirtual 138, 3) := by decide +kernel
theorem dX12_findBest_48 : decode cX12_findBest 48 = .ok (.istore 5, 2) := by decide +kernel
theorem dX12_findBest_50 : decode cX12_findBest 50 = .ok (.aload_n 0, 1) := by decide +kernel
theorem dX12_findBest_51 : decode cX12_findBest 51 = .ok (.aload_n 0, 1) := by decide +kernel
theorem dX12_findBest_52 : decode cX12_findBest 52 = .ok (.getfield 68, 3) := by decide +kernel
theorem dX12_findBest_55 : decode cX12_findBest 55 = .ok (.invokevirtual 141, 3) := by decide +kernel
theorem dX12_findBest_58 : decode cX12_findBest 58 = .ok (.istore 6, 2) := by decide +kernel
theorem dX12_findBest_60 : decode cX12_findBest 60 = .ok (.aload_n 0, 1) := by decide +kernel
theorem dX12_findBest_61 : decode cX12_findBest 61 = .ok (.getfield 117, 3) := by decide +kernel
theorem dX12_findBest_64 : decode cX12_findBest 64 = .ok (.ifCond .ne 29, 3) := by decide +kernel
theorem dX12_findBest_67 : decode cX12_findBest 67 = .ok (.iload 5, 2) := by decide +kernel
theorem dX12_findBest_69 : decode cX12_findBest 69 = .ok (.iload_n 2, 1) := by decide +kernel
theorem dX12_findBest_70 : decode cX12_findBest 70 = .ok (.if_icmp .lt 15, 3) := by decide +kernel
theorem dX12_findBest_73 : decode cX12_findBest 73 = .ok (.iload 5, 2) := by decide +kernel
theorem dX12_findBest_75 : decode cX12_findBest 75 = .ok (.iload_n 2, 1) := by decide +kernel
theorem dX12_findBest_76 : decode cX12_findBest 76 = .ok (.if_icmp .ne 13, 3) := by decide +kernel
theorem dX12_findBest_79 : decode cX12_findBest 79 = .ok (.iload 6, 2) := by decide +kernel
theorem dX12_findBest_81 : decode cX12_findBest 81 = .ok (.iload_n 3, 1) := by decide +kernel
theorem dX12_findBest_82 : decode cX12_findBest 82 = .ok (.if_icmp .le 7, 3) := by decide +kernel
theorem dX12_findBest_85 : decode cX12_findBest 85 = .ok (.iconst 1, 1) := by decide +kernel
theorem dX12_findBest_86 : decode cX12_findBest 86 = .ok (.goto 30, 3) := by decide +kernel
theorem dX12_findBest_89 : decode cX12_findBest 89 = .ok (.iconst 0, 1) := by decide +kernel
theorem dX12_findBest_90 : decode cX12_findBest 90 = .ok (.goto 26, 3) := by decide +kernel
theorem dX12_findBest_93 : decode cX12_findBest 93 = .ok (.iload 6, 2) := by decide +kernel
theorem dX12_findBest_95 : decode cX12_findBest 95 = .ok (.iload_n 3, 1) := by decide +kernel
theorem dX12_findBest_96 : decode cX12_findBest 96 = .ok (.if_icmp .gt 15, 3) := by decide +kernel
theorem dX12_findBest_99 : decode cX12_findBest 99 = .ok (.iload 6, 2) := by decide +kernel
theorem dX12_findBest_101 : decode cX12_findBest 101 = .ok (.iload_n 3, 1) := by decide +kernel
theorem dX12_findBest_102 : decode cX12_findBest 102 = .ok (.if_icmp .ne 13, 3) := by decide +kernel
theorem dX12_findBest_105 : decode cX12_findBest 105 = .ok (.iload 5, 2) := by decide +kernel
theorem dX12_findBest_107 : decode cX12_findBest 107 = .ok (.iload_n 2, 1) := by decide +kernel
theorem dX12_findBest_108 : decode cX12_findBest 108 = .ok (.if_icmp .ge 7, 3) := by decide +kernel
theorem dX12_findBest_111 : decode cX12_findBest 111 = .ok (.iconst 1, 1) := by decide +kernel
theorem dX12_findBest_112 : decode cX12_findBest 112 = .ok (.goto 4, 3) := by decide +kernel
theorem dX12_findBest_115 : decode cX12_findBest 115 = .ok (.iconst 0, 1) := by decide +kernel
theorem dX12_findBest_116 : decode cX12_findBest 116 = .ok (.istore 7, 2) := by decide +kernel
theorem dX12_findBest_118 : decode cX12_findBest 118 = .ok (.iload_n 1, 1) := by decide +kernel
theorem dX12_findBest_119 : decode cX12_findBest 119 = .ok (.ifCond .eq 8, 3) := by decide +kernel
theorem dX12_findBest_122 : decode cX12_findBest 122 = .ok (.iload 7, 2) := by decide +kernel
theorem dX12_findBest_124 : decode cX12_findBest 124 = .ok (.ifCond .eq 43, 3) := by decide +kernel
theorem dX12_findBest_127 : decode cX12_findBest 127 = .ok (.iconst 1, 1) := by decide +kernel
theorem dX12_findBest_128 : decode cX12_findBest 128 = .ok (.istore_n 1, 1) := by decide +kernel
theorem dX12_findBest_129 : decode cX12_findBest 129 = .ok (.iload 5, 2) := by decide +kernel
theorem dX12_findBest_131 : decode cX12_findBest 131 = .ok (.istore_n 2, 1) := by decide +kernel
theorem dX12_findBest_132 : decode cX12_findBest 132 = .ok (.iload 6, 2) := by decide +kernel
theorem dX12_findBest_134 : decode cX12_findBest 134 = .ok (.istore_n 3, 1) := by decide +kernel
theorem dX12_findBest_135 : decode cX12_findBest 135 = .ok (.iconst 0, 1) := by decide +kernel
theorem dX12_findBest_136 : decode cX12_findBest 136 = .ok (.istore 8, 2) := by decide +kernel
theorem dX12_findBest_138 : decode cX12_findBest 138 = .ok (.iload 8, 2) := by decide +kernel
theorem dX12_findBest_140 : decode cX12_findBest 140 = .ok (.aload_n 0, 1) := by decide +kernel
theorem dX12_findBest_141 : decode cX12_findBest 141 = .ok (.getfield 93, 3) := by decide +kernel
theorem dX12_findBest_144 : decode cX12_findBest 144 = .ok (.if_icmp .ge 23, 3) := by decide +kernel
theorem dX12_findBest_147 : decode cX12_findBest 147 = .ok (.aload_n 0, 1) := by decide +kernel
theorem dX12_findBest_148 : decode cX12_findBest 148 = .ok (.getfield 71, 3) := by decide +kernel
theorem dX12_findBest_151 : decode cX12_findBest 151 = .ok (.iload 8, 2) := by decide +kernel
theorem dX12_findBest_153 : decode cX12_findBest 153 = .ok (.aload_n 0, 1) := by decide +kernel
theorem dX12_findBest_154 : decode cX12_findBest 154 = .ok (.getfield 68, 3) := by decide +kernel
theorem dX12_findBest_157 : decode cX12_findBest 157 = .ok (.iload 8, 2) := by decide +kernel
theorem dX12_findBest_159 : decode cX12_findBest 159 = .ok (.iaload, 1) := by decide +kernel
theorem dX12_findBest_160 : decode cX12_findBest 160 = .ok (.iastore, 1) := by decide +kernel
theorem dX12_findBest_161 : decode cX12_findBest 161 = .ok (.iinc 8 1, 3) := by decide +kernel
theorem dX12_findBest_164 : decode cX12_findBest 164 = .ok (.goto (-26), 3) := by decide +kernel
theorem dX12_findBest_167 : decode cX12_findBest 167 = .ok (.aload_n 0, 1) := by decide +kernel
theorem dX12_findBest_168 : decode cX12_findBest 168 = .ok (.invokevirtual 144, 3) := by decide +kernel
theorem dX12_findBest_171 : decode cX12_findBest 171 = .ok (.istore 4, 2) := by decide +kernel
theorem dX12_findBest_173 : decode cX12_findBest 173 = .ok (.goto (-160), 3) := by decide +kernel
theorem dX12_findBest_176 : decode cX12_findBest 176 = .ok (.iload_n 1, 1) := by decide +kernel
theorem dX12_findBest_177 : decode cX12_findBest 177 = .ok (.ireturn, 1) := by decide +kernel
theorem dX12_leastOf_0 : decode cX12_leastOf 0 = .ok (.bipush (-5), 2) := by decide +kernel
theorem dX12_leastOf_2 : decode cX12_leastOf 2 = .ok (.istore_n 2, 1) := by decide +kernel
theorem dX12_leastOf_3 : decode cX12_leastOf 3 = .ok (.iconst 1, 1) := by decide +kernel
theorem dX12_leastOf_4 : decode cX12_leastOf 4 = .ok (.istore_n 3, 1) := by decide +kernel
theorem dX12_leastOf_5 : decode cX12_leastOf 5 = .ok (.aload_n 0, 1) := by decide +kernel
theorem dX12_leastOf_6 : decode cX12_leastOf 6 = .ok (.invokevirtual 127, 3) := by decide +kernel
theorem dX12_leastOf_9 : decode cX12_leastOf 9 = .ok (.iload_n 3, 1) := by decide +kernel
theorem dX12_leastOf_10 : decode cX12_leastOf 10 = .ok (.ifCond .eq 85, 3) := by decide +kernel
theorem dX12_leastOf_13 : decode cX12_leastOf 13 = .ok (.aload_n 0, 1) := by decide +kernel
theorem dX12_leastOf_14 : decode cX12_leastOf 14 = .ok (.aload_n 0, 1) := by decide +kernel
theorem dX12_leastOf_15 : decode cX12_leastOf 15 = .ok (.getfield 68, 3) := by decide +kernel
theorem dX12_leastOf_18 : decode cX12_leastOf 18 = .ok (.invokevirtual 134, 3) := by decide +kernel
theorem dX12_leastOf_21 : decode cX12_leastOf 21 = .ok (.istore 4, 2) := by decide +kernel
theorem dX12_leastOf_23 : decode cX12_leastOf 23 = .ok (.iload_n 1, 1) := by decide +kernel
theorem dX12_leastOf_24 : decode cX12_leastOf 24 = .ok (.ifCond .ge 8, 3) := by decide +kernel
theorem dX12_leastOf_27 : decode cX12_leastOf 27 = .ok (.iload 4, 2) := by decide +kernel
theorem dX12_leastOf_29 : decode cX12_leastOf 29 = .ok (.goto 11, 3) := by decide +kernel
theorem dX12_leastOf_32 : decode cX12_leastOf 32 = .ok (.iload 4, 2) := by decide +kernel
theorem dX12_leastOf_34 : decode cX12_leastOf 34 = .ok (.iconst 1, 1) := by decide +kernel
theorem dX12_leastOf_35 : decode cX12_leastOf 35 = .ok (.iload_n 1, 1) := by decide +kernel
theorem dX12_leastOf_36 : decode cX12_leastOf 36 = .ok (.ishl, 1) := by decide +kernel
theorem dX12_leastOf_37 : decode cX12_leastOf 37 = .ok (.iconst (-1), 1) := by decide +kernel
theorem dX12_leastOf_38 : decode cX12_leastOf 38 = .ok (.ixor, 1) := by decide +kernel
theorem dX12_leastOf_39 : decode cX12_leastOf 39 = .ok (.iand, 1) := by decide +kernel
theorem dX12_leastOf_40 : decode cX12_leastOf 40 = .ok (.istore 4, 2) := by decide +kernel
theorem dX12_leastOf_42 : decode cX12_leastOf 42 = .ok (.iload 4, 2) := by decide +kernel
theorem dX12_leastOf_44 : decode cX12_leastOf 44 = .ok (.ifCond .ne 43, 3) := by decide +kernel
theorem dX12_leastOf_47 : decode cX12_leastOf 47 = .ok (.aload_n 0, 1) := by decide +kernel
theorem dX12_leastOf_48 : decode cX12_leastOf 48 = .ok (.aload_n 0, 1) := by decide +kernel
theorem dX12_leastOf_49 : decode cX12_leastOf 49 = .ok (.getfield 68, 3) := by decide +kernel
theorem dX12_leastOf_52 : decode cX12_leastOf 52 = .ok (.invokevirtual 130, 3) := by decide +kernel
theorem dX12_leastOf_55 : decode cX12_leastOf 55 = .ok (.ifCond .eq 32, 3) := by decide +kernel
theorem dX12_leastOf_58 : decode cX12_leastOf 58 = .ok (.aload_n 0, 1) := by decide +kernel
theorem dX12_leastOf_59 : decode cX12_leastOf 59 = .ok (.aload_n 0, 1) := by decide +kernel
theorem dX12_leastOf_60 : decode cX12_leastOf 60 = .ok (.getfield 68, 3) := by decide +kernel
theorem dX12_leastOf_63 : decode cX12_leastOf 63 = .ok (.invokevirtual 138, 3) := by decide +kernel
theorem dX12_leastOf_66 : decode cX12_leastOf 66 = .ok (.istore 5, 2) := by decide +kernel
theorem dX12_leastOf_68 : decode cX12_leastOf 68 = .ok (.iload_n 2, 1) := by decide +kernel
theorem dX12_leastOf_69 : decode cX12_leastOf 69 = .ok (.bipush (-5), 2) := by decide +kernel
theorem dX12_leastOf_71 : decode cX12_leastOf 71 = .ok (.if_icmp .eq 9, 3) := by decide +kernel
theorem dX12_leastOf_74 : decode cX12_leastOf 74 = .ok (.iload 5, 2) := by decide +kernel
theorem dX12_leastOf_76 : decode cX12_leastOf 76 = .ok (.iload_n 2, 1) := by decide +kernel
theorem dX12_leastOf_77 : decode cX12_leastOf 77 = .ok (.if_icmp .ge 8, 3) := by decide +kernel
theorem dX12_leastOf_80 : decode cX12_leastOf 80 = .ok (.iload 5, 2) := by decide +kernel
theorem dX12_leastOf_82 : decode cX12_leastOf 82 = .ok (.goto 4, 3) := by decide +kernel
theorem dX12_leastOf_85 : decode cX12_leastOf 85 = .ok (.iload_n 2, 1) := by decide +kernel
theorem dX12_leastOf_86 : decode cX12_leastOf 86 = .ok (.istore_n 2, 1) := by decide +kernel
theorem dX12_leastOf_87 : decode cX12_leastOf 87 = .ok (.aload_n 0, 1) := by decide +kernel
theorem dX12_leastOf_88 : decode cX12_leastOf 88 = .ok (.invokevirtual 144, 3) := by decide +kernel
theorem dX12_leastOf_91 : decode cX12_leastOf 91 = .ok (.istore_n 3, 1) := by decide +kernel
theorem dX12_leastOf_92 : decode cX12_leastOf 92 = .ok (.goto (-83), 3) := by decide +kernel
theorem dX12_leastOf_95 : decode cX12_leastOf 95 = .ok (.iload_n 2, 1) := by decide +kernel
theorem dX12_leastOf_96 : decode cX12_leastOf 96 = .ok (.ireturn, 1) := by decide +kernel
theorem dX12_put_0 : decode cX12_put 0 = .ok (.aload_n 0, 1) := by decide +kernel
theorem dX12_put_1 : decode cX12_put 1 = .ok (.iload_n 1, 1) := by decide +kernel
theorem dX12_put_2 : decode cX12_put 2 = .ok (.invokevirtual 103, 3) := by decide +kernel
theorem dX12_put_5 : decode cX12_put 5 = .ok (.ifCond .eq 5, 3) := by decide +kernel
theorem dX12_put_8 : decode cX12_put 8 = .ok (.iconst (-1), 1) := by decide +kernel
theorem dX12_put_9 : decode cX12_put 9 = .ok (.ireturn, 1) := by decide +kernel
theorem dX12_put_10 : decode cX12_put 10 = .ok (.aload_n 0, 1) := by decide +kernel
theorem dX12_put_11 : decode cX12_put 11 = .ok (.iload_n 1, 1) := by decide +kernel
theorem dX12_put_12 : decode cX12_put 12 = .ok (.iload_n 2, 1) := by decide +kernel
theorem dX12_put_13 : decode cX12_put 13 = .ok (.invokevirtual 107, 3) := by decide +kernel
theorem dX12_put_16 : decode cX12_put 16 = .ok (.ifCond .ne 6, 3) := by decide +kernel
theorem dX12_put_19 : decode cX12_put 19 = .ok (.bipush (-2), 2) := by decide +kernel
theorem dX12_put_21 : decode cX12_put 21 = .ok (.ireturn, 1) := by decide +kernel
theorem dX12_put_22 : decode cX12_put 22 = .ok (.aload_n 0, 1) := by decide +kernel
theorem dX12_put_23 : decode cX12_put 23 = .ok (.getfield 31, 3) := by decide +kernel
theorem dX12_put_26 : decode cX12_put 26 = .ok (.iload_n 1, 1) := by decide +kernel
theorem dX12_put_27 : decode cX12_put 27 = .ok (.iaload, 1) := by decide +kernel
theorem dX12_put_28 : decode cX12_put 28 = .ok (.istore_n 3, 1) := by decide +kernel
theorem dX12_put_29 : decode cX12_put 29 = .ok (.aload_n 0, 1) := by decide +kernel
theorem dX12_put_30 : decode cX12_put 30 = .ok (.getfield 31, 3) := by decide +kernel
theorem dX12_put_33 : decode cX12_put 33 = .ok (.iload_n 1, 1) := by decide +kernel
theorem dX12_put_34 : decode cX12_put 34 = .ok (.iload_n 2, 1) := by decide +kernel
theorem dX12_put_35 : decode cX12_put 35 = .ok (.iastore, 1) := by decide +kernel
theorem dX12_put_36 : decode cX12_put 36 = .ok (.iload_n 3, 1) := by decide +kernel
theorem dX12_put_37 : decode cX12_put 37 = .ok (.ireturn, 1) := by decide +kernel
theorem dX12_value_0 : decode cX12_value 0 = .ok (.aload_n 0, 1) := by decide +kernel
theorem dX12_value_1 : decode cX12_value 1 = .ok (.iload_n 1, 1) := by decide +kernel
theorem dX12_value_2 : decode cX12_value 2 = .ok (.invokevirtual 103, 3) := by decide +kernel
theorem dX12_value_5 : decode cX12_value 5 = .ok (.ifCond .eq 7, 3) := by decide +kernel
theorem dX12_value_8 : decode cX12_value 8 = .ok (.iconst (-1), 1) := by decide +kernel
theorem dX12_value_9 : decode cX12_value 9 = .ok (.goto 9, 3) := by decide +kernel
theorem dX12_value_12 : decode cX12_value 12 = .ok (.aload_n 0, 1) := by decide +kernel
theorem dX12_value_13 : decode cX12_value 13 = .ok (.getfield 31, 3) := by decide +kernel
theorem dX12_value_16 : decode cX12_value 16 = .ok (.iload_n 1, 1) := by decide +kernel
theorem dX12_value_17 : decode cX12_value 17 = .ok (.iaload, 1) := by decide +kernel
theorem dX12_value_18 : decode cX12_value 18 = .ok (.ireturn, 1) := by decide +kernel
theorem dX12_keep_0 : decode cX12_keep 0 = .ok (.aload_n 0, 1) := by decide +kernel
theorem dX12_keep_1 : decode cX12_keep 1 = .ok (.getfield 93, 3) := by decide +kernel
theorem dX12_keep_4 : decode cX12_keep 4 = .ok (.ifCond .ne 6, 3) := by decide +kernel
theorem dX12_keep_7 : decode cX12_keep 7 = .ok (.bipush (-3), 2) := by decide +kernel
theorem dX12_keep_9 : decode cX12_keep 9 = .ok (.ireturn, 1) := by decide +kernel
theorem dX12_keep_10 : decode cX12_keep 10 = .ok (.aload_n 0, 1) := by decide +kernel
theorem dX12_keep_11 : decode cX12_keep 11 = .ok (.getfield 100, 3) := by decide +kernel
theorem dX12_keep_14 : decode cX12_keep 14 = .ok (.iconst 3, 1) := by decide +kernel
theorem dX12_keep_15 : decode cX12_keep 15 = .ok (.if_icmp .ne 6, 3) := by decide +kernel
theorem dX12_keep_18 : decode cX12_keep 18 = .ok (.bipush (-4), 2) := by decide +kernel
theorem dX12_keep_20 : decode cX12_keep 20 = .ok (.ireturn, 1) := by decide +kernel
theorem dX12_keep_21 : decode cX12_keep 21 = .ok (.iconst 0, 1) := by decide +kernel
theorem dX12_keep_22 : decode cX12_keep 22 = .ok (.istore_n 1, 1) := by decide +kernel
theorem dX12_keep_23 : decode cX12_keep 23 = .ok (.iload_n 1, 1) := by decide +kernel
theorem dX12_keep_24 : decode cX12_keep 24 = .ok (.bipush 6, 2) := by decide +kernel
theorem dX12_keep_26 : decode cX12_keep 26 = .ok (.if_icmp .ge 49, 3) := by decide +kernel
theorem dX12_keep_29 : decode cX12_keep 29 = .ok (.aload_n 0, 1) := by decide +kernel
theorem dX12_keep_30 : decode cX12_keep 30 = .ok (.getfield 52, 3) := by decide +kernel
theorem dX12_keep_33 : decode cX12_keep 33 = .ok (.bipush 6, 2) := by decide +kernel
theorem dX12_keep_35 : decode cX12_keep 35 = .ok (.aload_n 0, 1) := by decide +kernel
theorem dX12_keep_36 : decode cX12_keep 36 = .ok (.getfield 100, 3) := by decide +kernel
theorem dX12_keep_39 : decode cX12_keep 39 = .ok (.imul, 1) := by decide +kernel
theorem dX12_keep_40 : decode cX12_keep 40 = .ok (.iload_n 1, 1) := by decide +kernel
theorem dX12_keep_41 : decode cX12_keep 41 = .ok (.iadd, 1) := by decide +kernel
theorem dX12_keep_42 : decode cX12_keep 42 = .ok (.aload_n 0, 1) := by decide +kernel
theorem dX12_keep_43 : decode cX12_keep 43 = .ok (.getfield 31, 3) := by decide +kernel
theorem dX12_keep_46 : decode cX12_keep 46 = .ok (.iload_n 1, 1) := by decide +kernel
theorem dX12_keep_47 : decode cX12_keep 47 = .ok (.iaload, 1) := by decide +kernel
theorem dX12_keep_48 : decode cX12_keep 48 = .ok (.iastore, 1) := by decide +kernel
theorem dX12_keep_49 : decode cX12_keep 49 = .ok (.aload_n 0, 1) := by decide +kernel
theorem dX12_keep_50 : decode cX12_keep 50 = .ok (.getfield 55, 3) := by decide +kernel
theorem dX12_keep_53 : decode cX12_keep 53 = .ok (.bipush 6, 2) := by decide +kernel
theorem dX12_keep_55 : decode cX12_keep 55 = .ok (.aload_n 0, 1) := by decide +kernel
theorem dX12_keep_56 : decode cX12_keep 56 = .ok (.getfield 100, 3) := by decide +kernel
theorem dX12_keep_59 : decode cX12_keep 59 = .ok (.imul, 1) := by decide +kernel
theorem dX12_keep_60 : decode cX12_keep 60 = .ok (.iload_n 1, 1) := by decide +kernel
theorem dX12_keep_61 : decode cX12_keep 61 = .ok (.iadd, 1) := by decide +kernel
theorem dX12_keep_62 : decode cX12_keep 62 = .ok (.aload_n 0, 1) := by decide +kernel
theorem dX12_keep_63 : decode cX12_keep 63 = .ok (.getfield 37, 3) := by decide +kernel
theorem dX12_keep_66 : decode cX12_keep 66 = .ok (.iload_n 1, 1) := by decide +kernel
theorem dX12_keep_67 : decode cX12_keep 67 = .ok (.iaload, 1) := by decide +kernel
theorem dX12_keep_68 : decode cX12_keep 68 = .ok (.iastore, 1) := by decide +kernel
theorem dX12_keep_69 : decode cX12_keep 69 = .ok (.iinc 1 1, 3) := by decide +kernel
theorem dX12_keep_72 : decode cX12_keep 72 = .ok (.goto (-49), 3) := by decide +kernel
theorem dX12_keep_75 : decode cX12_keep 75 = .ok (.aload_n 0, 1) := by decide +kernel
theorem dX12_keep_76 : decode cX12_keep 76 = .ok (.aload_n 0, 1) := by decide +kernel
theorem dX12_keep_77 : decode cX12_keep 77 = .ok (.getfield 100, 3) := by decide +kernel
theorem dX12_keep_80 : decode cX12_keep 80 = .ok (.putfield 58, 3) := by decide +kernel
theorem dX12_keep_83 : decode cX12_keep 83 = .ok (.aload_n 0, 1) := by decide +kernel
theorem dX12_keep_84 : decode cX12_keep 84 = .ok (.dup, 1) := by decide +kernel
theorem dX12_keep_85 : decode cX12_keep 85 = .ok (.getfield 100, 3) := by decide +kernel
theorem dX12_keep_88 : decode cX12_keep 88 = .ok (.iconst 1, 1) := by decide +kernel
theorem dX12_keep_89 : decode cX12_keep 89 = .ok (.iadd, 1) := by decide +kernel
theorem dX12_keep_90 : decode cX12_keep 90 = .ok (.putfield 100, 3) := by decide +kernel
theorem dX12_keep_93 : decode cX12_keep 93 = .ok (.aload_n 0, 1) := by decide +kernel
theorem dX12_keep_94 : decode cX12_keep 94 = .ok (.getfield 58, 3) := by decide +kernel
theorem dX12_keep_97 : decode cX12_keep 97 = .ok (.ireturn, 1) := by decide +kernel
theorem dX12_base_0 : decode cX12_base 0 = .ok (.iload_n 1, 1) := by decide +kernel
theorem dX12_base_1 : decode cX12_base 1 = .ok (.iconst 0, 1) := by decide +kernel
theorem dX12_base_2 : decode cX12_base 2 = .ok (.aload_n 0, 1) := by decide +kernel
theorem dX12_base_3 : decode cX12_base 3 = .ok (.getfield 100, 3) := by decide +kernel
theorem dX12_base_6 : decode cX12_base 6 = .ok (.iconst 1, 1) := by decide +kernel
theorem dX12_base_7 : decode cX12_base 7 = .ok (.isub, 1) := by decide +kernel
theorem dX12_base_8 : decode cX12_base 8 = .ok (.invokestatic 96, 3) := by decide +kernel
theorem dX12_base_11 : decode cX12_base 11 = .ok (.ifCond .eq 5, 3) := by decide +kernel
theorem dX12_base_14 : decode cX12_base 14 = .ok (.iconst (-1), 1) := by decide +kernel
theorem dX12_base_15 : decode cX12_base 15 = .ok (.ireturn, 1) := by decide +kernel
theorem dX12_base_16 : decode cX12_base 16 = .ok (.aload_n 0, 1) := by decide +kernel
theorem dX12_base_17 : decode cX12_base 17 = .ok (.getfield 58, 3) := by decide +kernel
theorem dX12_base_20 : decode cX12_base 20 = .ok (.istore_n 2, 1) := by decide +kernel
theorem dX12_base_21 : decode cX12_base 21 = .ok (.aload_n 0, 1) := by decide +kernel
theorem dX12_base_22 : decode cX12_base 22 = .ok (.iload_n 1, 1) := by decide +kernel
theorem dX12_base_23 : decode cX12_base 23 = .ok (.putfield 58, 3) := by decide +kernel
theorem dX12_base_26 : decode cX12_base 26 = .ok (.iload_n 2, 1) := by decide +kernel
theorem dX12_base_27 : decode cX12_base 27 = .ok (.ireturn, 1) := by decide +kernel
theorem dX12_old_0 : decode cX12_old 0 = .ok (.iload_n 1, 1) := by decide +kernel
theorem dX12_old_1 : decode cX12_old 1 = .ok (.iconst 0, 1) := by decide +kernel
theorem dX12_old_2 : decode cX12_old 2 = .ok (.aload_n 0, 1) := by decide +kernel
theorem dX12_old_3 : decode cX12_old 3 = .ok (.getfield 100, 3) := by decide +kernel
theorem dX12_old_6 : decode cX12_old 6 = .ok (.iconst 1, 1) := by decide +kernel
theorem dX12_old_7 : decode cX12_old 7 = .ok (.isub, 1) := by decide +kernel
theorem dX12_old_8 : decode cX12_old 8 = .ok (.invokestatic 96, 3) := by decide +kernel
theorem dX12_old_11 : decode cX12_old 11 = .ok (.ifCond .ne 11, 3) := by decide +kernel
theorem dX12_old_14 : decode cX12_old 14 = .ok (.aload_n 0, 1) := by decide +kernel
theorem dX12_old_15 : decode cX12_old 15 = .ok (.iload_n 2, 1) := by decide +kernel
theorem dX12_old_16 : decode cX12_old 16 = .ok (.invokevirtual 103, 3) := by decide +kernel
theorem dX12_old_19 : decode cX12_old 19 = .ok (.ifCond .eq 7, 3) := by decide +kernel
theorem dX12_old_22 : decode cX12_old 22 = .ok (.iconst (-1), 1) := by decide +kernel
theorem dX12_old_23 : decode cX12_old 23 = .ok (.goto 14, 3) := by decide +kernel
theorem dX12_old_26 : decode cX12_old 26 = .ok (.aload_n 0, 1) := by decide +kernel
theorem dX12_old_27 : decode cX12_old 27 = .ok (.getfield 52, 3) := by decide +kernel
theorem dX12_old_30 : decode cX12_old 30 = .ok (.bipush 6, 2) := by decide +kernel
theorem dX12_old_32 : decode cX12_old 32 = .ok (.iload_n 1, 1) := by decide +kernel
theorem dX12_old_33 : decode cX12_old 33 = .ok (.imul, 1) := by decide +kernel
theorem dX12_old_34 : decode cX12_old 34 = .ok (.iload_n 2, 1) := by decide +kernel
theorem dX12_old_35 : decode cX12_old 35 = .ok (.iadd, 1) := by decide +kernel
theorem dX12_old_36 : decode cX12_old 36 = .ok (.iaload, 1) := by decide +kernel
theorem dX12_old_37 : decode cX12_old 37 = .ok (.ireturn, 1) := by decide +kernel
theorem dX12_run_0 : decode cX12_run 0 = .ok (.aload_n 0, 1) := by decide +kernel
theorem dX12_run_1 : decode cX12_run 1 = .ok (.getfield 93, 3) := by decide +kernel
theorem dX12_run_4 : decode cX12_run 4 = .ok (.ifCond .ne 6, 3) := by decide +kernel
theorem dX12_run_7 : decode cX12_run 7 = .ok (.bipush (-3), 2) := by decide +kernel
theorem dX12_run_9 : decode cX12_run 9 = .ok (.ireturn, 1) := by decide +kernel
theorem dX12_run_10 : decode cX12_run 10 = .ok (.aload_n 0, 1) := by decide +kernel
theorem dX12_run_11 : decode cX12_run 11 = .ok (.invokevirtual 148, 3) := by decide +kernel
theorem dX12_run_14 : decode cX12_run 14 = .ok (.ifCond .ne 6, 3) := by decide +kernel
theorem dX12_run_17 : decode cX12_run 17 = .ok (.bipush (-5), 2) := by decide +kernel
theorem dX12_run_19 : decode cX12_run 19 = .ok (.ireturn, 1) := by decide +kernel
theorem dX12_run_20 : decode cX12_run 20 = .ok (.aload_n 0, 1) := by decide +kernel
theorem dX12_run_21 : decode cX12_run 21 = .ok (.getfield 151, 3) := by decide +kernel
theorem dX12_run_24 : decode cX12_run 24 = .ok (.bipush 8, 2) := by decide +kernel
theorem dX12_run_26 : decode cX12_run 26 = .ok (.if_icmp .ne 66, 3) := by decide +kernel
theorem dX12_run_29 : decode cX12_run 29 = .ok (.iconst 0, 1) := by decide +kernel
theorem dX12_run_30 : decode cX12_run 30 = .ok (.istore_n 1, 1) := by decide +kernel
theorem dX12_run_31 : decode cX12_run 31 = .ok (.iload_n 1, 1) := by decide +kernel
theorem dX12_run_32 : decode cX12_run 32 = .ok (.bipush 42, 2) := by decide +kernel
theorem dX12_run_34 : decode cX12_run 34 = .ok (.if_icmp .ge 24, 3) := by decide +kernel
theorem dX12_run_37 : decode cX12_run 37 = .ok (.aload_n 0, 1) := by decide +kernel
theorem dX12_run_38 : decode cX12_run 38 = .ok (.getfield 65, 3) := by decide +kernel
theorem dX12_run_41 : decode cX12_run 41 = .ok (.iload_n 1, 1) := by decide +kernel
theorem dX12_run_42 : decode cX12_run 42 = .ok (.aload_n 0, 1) := by decide +kernel
theorem dX12_run_43 : decode cX12_run 43 = .ok (.getfield 65, 3) := by decide +kernel
theorem dX12_run_46 : decode cX12_run 46 = .ok (.iload_n 1, 1) := by decide +kernel
theorem dX12_run_47 : decode cX12_run 47 = .ok (.bipush 6, 2) := by decide +kernel
theorem dX12_run_49 : decode cX12_run 49 = .ok (.iadd, 1) := by decide +kernel
theorem dX12_run_50 : decode cX12_run 50 = .ok (.iaload, 1) := by decide +kernel
theorem dX12_run_51 : decode cX12_run 51 = .ok (.iastore, 1) := by decide +kernel
theorem dX12_run_52 : decode cX12_run 52 = .ok (.iinc 1 1, 3) := by decide +kernel
theorem dX12_run_55 : decode cX12_run 55 = .ok (.goto (-24), 3) := by decide +kernel
theorem dX12_run_58 : decode cX12_run 58 = .ok (.iconst 0, 1) := by decide +kernel
theorem dX12_run_59 : decode cX12_run 59 = .ok (.istore_n 1, 1) := by decide +kernel
theorem dX12_run_60 : decode cX12_run 60 = .ok (.iload_n 1, 1) := by decide +kernel
theorem dX12_run_61 : decode cX12_run 61 = .ok (.bipush 7, 2) := by decide +kernel
theorem dX12_run_63 : decode cX12_run 63 = .ok (.if_icmp .ge 23, 3) := by decide +kernel
theorem dX12_run_66 : decode cX12_run 66 = .ok (.aload_n 0, 1) := by decide +kernel
theorem dX12_run_67 : decode cX12_run 67 = .ok (.getfield 62, 3) := by decide +kernel
theorem dX12_run_70 : decode cX12_run 70 = .ok (.iload_n 1, 1) := by decide +kernel
theorem dX12_run_71 : decode cX12_run 71 = .ok (.aload_n 0, 1) := by decide +kernel
theorem dX12_run_72 : decode cX12_run 72 = .ok (.getfield 62, 3) := by decide +kernel
theorem dX12_run_75 : decode cX12_run 75 = .ok (.iload_n 1, 1) := by decide +kernel
theorem dX12_run_76 : decode cX12_run 76 = .ok (.iconst 1, 1) := by decide +kernel
theorem dX12_run_77 : decode cX12_run 77 = .ok (.iadd, 1) := by decide +kernel
theorem dX12_run_78 : decode cX12_run 78 = .ok (.iaload, 1) := by decide +kernel
theorem dX12_run_79 : decode cX12_run 79 = .ok (.iastore, 1) := by decide +kernel
theorem dX12_run_80 : decode cX12_run 80 = .ok (.iinc 1 1, 3) := by decide +kernel
theorem dX12_run_83 : decode cX12_run 83 = .ok (.goto (-23), 3) := by decide +kernel
theorem dX12_run_86 : decode cX12_run 86 = .ok (.aload_n 0, 1) := by decide +kernel
theorem dX12_run_87 : decode cX12_run 87 = .ok (.bipush 7, 2) := by decide +kernel
theorem dX12_run_89 : decode cX12_run 89 = .ok (.putfield 151, 3) := by decide +kernel
theorem dX12_run_92 : decode cX12_run 92 = .ok (.aload_n 0, 1) := by decide +kernel
theorem dX12_run_93 : decode cX12_run 93 = .ok (.getfield 62, 3) := by decide +kernel
theorem dX12_run_96 : decode cX12_run 96 = .ok (.aload_n 0, 1) := by decide +kernel
theorem dX12_run_97 : decode cX12_run 97 = .ok (.getfield 151, 3) := by decide +kernel
theorem dX12_run_100 : decode cX12_run 100 = .ok (.aload_n 0, 1) := by decide +kernel
theorem dX12_run_101 : decode cX12_run 101 = .ok (.getfield 93, 3) := by decide +kernel
theorem dX12_run_104 : decode cX12_run 104 = .ok (.iastore, 1) := by decide +kernel
theorem dX12_run_105 : decode cX12_run 105 = .ok (.iconst 0, 1) := by decide +kernel
theorem dX12_run_106 : decode cX12_run 106 = .ok (.istore_n 1, 1) := by decide +kernel
theorem dX12_run_107 : decode cX12_run 107 = .ok (.iload_n 1, 1) := by decide +kernel
theorem dX12_run_108 : decode cX12_run 108 = .ok (.aload_n 0, 1) := by decide +kernel
theorem dX12_run_109 : decode cX12_run 109 = .ok (.getfield 93, 3) := by decide +kernel
theorem dX12_run_112 : decode cX12_run 112 = .ok (.if_icmp .ge 41, 3) := by decide +kernel
theorem dX12_run_115 : decode cX12_run 115 = .ok (.aload_n 0, 1) := by decide +kernel
theorem dX12_run_116 : decode cX12_run 116 = .ok (.getfield 65, 3) := by decide +kernel
theorem dX12_run_119 : decode cX12_run 119 = .ok (.bipush 6, 2) := by decide +kernel
theorem dX12_run_121 : decode cX12_run 121 = .ok (.aload_n 0, 1) := by decide +kernel
theorem dX12_run_122 : decode cX12_run 122 = .ok (.getfield 151, 3) := by decide +kernel
theorem dX12_run_125 : decode cX12_run 125 = .ok (.imul, 1) := by decide +kernel
theorem dX12_run_126 : decode cX12_run 126 = .ok (.iload_n 1, 1) := by decide +kernel
theorem dX12_run_127 : decode cX12_run 127 = .ok (.iadd, 1) := by decide +kernel
theorem dX12_run_128 : decode cX12_run 128 = .ok (.aload_n 0, 1) := by decide +kernel
theorem dX12_run_129 : decode cX12_run 129 = .ok (.getfield 31, 3) := by decide +kernel
theorem dX12_run_132 : decode cX12_run 132 = .ok (.iload_n 1, 1) := by decide +kernel
theorem dX12_run_133 : decode cX12_run 133 = .ok (.iaload, 1) := by decide +kernel
theorem dX12_run_134 : decode cX12_run 134 = .ok (.iastore, 1) := by decide +kernel
theorem dX12_run_135 : decode cX12_run 135 = .ok (.aload_n 0, 1) := by decide +kernel
theorem dX12_run_136 : decode cX12_run 136 = .ok (.getfield 31, 3) := by decide +kernel
theorem dX12_run_139 : decode cX12_run 139 = .ok (.iload_n 1, 1) := by decide +kernel
theorem dX12_run_140 : decode cX12_run 140 = .ok (.aload_n 0, 1) := by decide +kernel
theorem dX12_run_141 : decode cX12_run 141 = .ok (.getfield 71, 3) := by decide +kernel
theorem dX12_run_144 : decode cX12_run 144 = .ok (.iload_n 1, 1) := by decide +kernel
theorem dX12_run_145 : decode cX12_run 145 = .ok (.iaload, 1) := by decide +kernel
theorem dX12_run_146 : decode cX12_run 146 = .ok (.iastore, 1) := by decide +kernel
theorem dX12_run_147 : decode cX12_run 147 = .ok (.iinc 1 1, 3) := by decide +kernel
theorem dX12_run_150 : decode cX12_run 150 = .ok (.goto (-43), 3) := by decide +kernel
theorem dX12_run_153 : decode cX12_run 153 = .ok (.aload_n 0, 1) := by decide +kernel
theorem dX12_run_154 : decode cX12_run 154 = .ok (.dup, 1) := by decide +kernel
theorem dX12_run_155 : decode cX12_run 155 = .ok (.getfield 151, 3) := by decide +kernel
theorem dX12_run_158 : decode cX12_run 158 = .ok (.iconst 1, 1) := by decide +kernel
theorem dX12_run_159 : decode cX12_run 159 = .ok (.iadd, 1) := by decide +kernel
theorem dX12_run_160 : decode cX12_run 160 = .ok (.putfield 151, 3) := by decide +kernel
theorem dX12_run_163 : decode cX12_run 163 = .ok (.aload_n 0, 1) := by decide +kernel
theorem dX12_run_164 : decode cX12_run 164 = .ok (.aload_n 0, 1) := by decide +kernel
theorem dX12_run_165 : decode cX12_run 165 = .ok (.getfield 31, 3) := by decide +kernel
theorem dX12_run_168 : decode cX12_run 168 = .ok (.invokevirtual 138, 3) := by decide +kernel
theorem dX12_run_171 : decode cX12_run 171 = .ok (.ireturn, 1) := by decide +kernel
theorem dX12_undo_0 : decode cX12_undo 0 = .ok (.aload_n 0, 1) := by decide +kernel
theorem dX12_undo_1 : decode cX12_undo 1 = .ok (.getfield 151, 3) := by decide +kernel
theorem dX12_undo_4 : decode cX12_undo 4 = .ok (.ifCond .ne 6, 3) := by decide +kernel
theorem dX12_undo_7 : decode cX12_undo 7 = .ok (.bipush (-3), 2) := by decide +kernel
theorem dX12_undo_9 : decode cX12_undo 9 = .ok (.ireturn, 1) := by decide +kernel
theorem dX12_undo_10 : decode cX12_undo 10 = .ok (.aload_n 0, 1) := by decide +kernel
theorem dX12_undo_11 : decode cX12_undo 11 = .ok (.dup, 1) := by decide +kernel
theorem dX12_undo_12 : decode cX12_undo 12 = .ok (.getfield 151, 3) := by decide +kernel
theorem dX12_undo_15 : decode cX12_undo 15 = .ok (.iconst 1, 1) := by decide +kernel
theorem dX12_undo_16 : decode cX12_undo 16 = .ok (.isub, 1) := by decide +kernel
theorem dX12_undo_17 : decode cX12_undo 17 = .ok (.putfield 151, 3) := by decide +kernel
theorem dX12_undo_20 : decode cX12_undo 20 = .ok (.iconst 0, 1) := by decide +kernel
theorem dX12_undo_21 : decode cX12_undo 21 = .ok (.istore_n 1, 1) := by decide +kernel
theorem dX12_undo_22 : decode cX12_undo 22 = .ok (.iload_n 1, 1) := by decide +kernel
theorem dX12_undo_23 : decode cX12_undo 23 = .ok (.aload_n 0, 1) := by decide +kernel
theorem dX12_undo_24 : decode cX12_undo 24 = .ok (.getfield 62, 3) := by decide +kernel
theorem dX12_undo_27 : decode cX12_undo 27 = .ok (.aload_n 0, 1) := by decide +kernel
theorem dX12_undo_28 : decode cX12_undo 28 = .ok (.getfield 151, 3) := by decide +kernel
theorem dX12_undo_31 : decode cX12_undo 31 = .ok (.iaload, 1) := by decide +kernel
theorem dX12_undo_32 : decode cX12_undo 32 = .ok (.if_icmp .ge 29, 3) := by decide +kernel
theorem dX12_undo_35 : decode cX12_undo 35 = .ok (.aload_n 0, 1) := by decide +kernel
theorem dX12_undo_36 : decode cX12_undo 36 = .ok (.getfield 31, 3) := by decide +kernel
theorem dX12_undo_39 : decode cX12_undo 39 = .ok (.iload_n 1, 1) := by decide +kernel
theorem dX12_undo_40 : decode cX12_undo 40 = .ok (.aload_n 0, 1) := by decide +kernel
theorem dX12_undo_41 : decode cX12_undo 41 = .ok (.getfield 65, 3) := by decide +kernel
theorem dX12_undo_44 : decode cX12_undo 44 = .ok (.bipush 6, 2) := by decide +kernel
theorem dX12_undo_46 : decode cX12_undo 46 = .ok (.aload_n 0, 1) := by decide +kernel
theorem dX12_undo_47 : decode cX12_undo 47 = .ok (.getfield 151, 3) := by decide +kernel
theorem dX12_undo_50 : decode cX12_undo 50 = .ok (.imul, 1) := by decide +kernel
theorem dX12_undo_51 : decode cX12_undo 51 = .ok (.iload_n 1, 1) := by decide +kernel
theorem dX12_undo_52 : decode cX12_undo 52 = .ok (.iadd, 1) := by decide +kernel
theorem dX12_undo_53 : decode cX12_undo 53 = .ok (.iaload, 1) := by decide +kernel
theorem dX12_undo_54 : decode cX12_undo 54 = .ok (.iastore, 1) := by decide +kernel
theorem dX12_undo_55 : decode cX12_undo 55 = .ok (.iinc 1 1, 3) := by decide +kernel
theorem dX12_undo_58 : decode cX12_undo 58 = .ok (.goto (-36), 3) := by decide +kernel
theorem dX12_undo_61 : decode cX12_undo 61 = .ok (.aload_n 0, 1) := by decide +kernel
theorem dX12_undo_62 : decode cX12_undo 62 = .ok (.getfield 151, 3) := by decide +kernel
theorem dX12_undo_65 : decode cX12_undo 65 = .ok (.ireturn, 1) := by decide +kernel
theorem dX12_ones_0 : decode cX12_ones 0 = .ok (.iconst 0, 1) := by decide +kernel
theorem dX12_ones_1 : decode cX12_ones 1 = .ok (.istore_n 1, 1) := by decide +kernel
theorem dX12_ones_2 : decode cX12_ones 2 = .ok (.iconst 0, 1) := by decide +kernel
theorem dX12_ones_3 : decode cX12_ones 3 = .ok (.istore_n 2, 1) := by decide +kernel
theorem dX12_ones_4 : decode cX12_ones 4 = .ok (.iload_n 2, 1) := by decide +kernel
theorem dX12_ones_5 : decode cX12_ones 5 = .ok (.bipush 12, 2) := by decide +kernel
theorem dX12_ones_7 : decode cX12_ones 7 = .ok (.if_icmp .ge 17, 3) := by decide +kernel
theorem dX12_ones_10 : decode cX12_ones 10 = .ok (.iload_n 1, 1) := by decide +kernel
theorem dX12_ones_11 : decode cX12_ones 11 = .ok (.iload_n 0, 1) := by decide +kernel
theorem dX12_ones_12 : decode cX12_ones 12 = .ok (.iload_n 2, 1) := by decide +kernel
theorem dX12_ones_13 : decode cX12_ones 13 = .ok (.ishr, 1) := by decide +kernel
theorem dX12_ones_14 : decode cX12_ones 14 = .ok (.iconst 1, 1) := by decide +kernel
theorem dX12_ones_15 : decode cX12_ones 15 = .ok (.iand, 1) := by decide +kernel
theorem dX12_ones_16 : decode cX12_ones 16 = .ok (.iadd, 1) := by decide +kernel
theorem dX12_ones_17 : decode cX12_ones 17 = .ok (.istore_n 1, 1) := by decide +kernel
theorem dX12_ones_18 : decode cX12_ones 18 = .ok (.iinc 2 1, 3) := by decide +kernel
theorem dX12_ones_21 : decode cX12_ones 21 = .ok (.goto (-17), 3) := by decide +kernel
theorem dX12_ones_24 : decode cX12_ones 24 = .ok (.iload_n 1, 1) := by decide +kernel
theorem dX12_ones_25 : decode cX12_ones 25 = .ok (.ireturn, 1) := by decide +kernel
theorem dX12_movedBits_0 : decode cX12_movedBits 0 = .ok (.iconst 0, 1) := by decide +kernel
theorem dX12_movedBits_1 : decode cX12_movedBits 1 = .ok (.istore_n 1, 1) := by decide +kernel
theorem dX12_movedBits_2 : decode cX12_movedBits 2 = .ok (.iconst 0, 1) := by decide +kernel
theorem dX12_movedBits_3 : decode cX12_movedBits 3 = .ok (.istore_n 2, 1) := by decide +kernel
theorem dX12_movedBits_4 : decode cX12_movedBits 4 = .ok (.iload_n 2, 1) := by decide +kernel
theorem dX12_movedBits_5 : decode cX12_movedBits 5 = .ok (.aload_n 0, 1) := by decide +kernel
theorem dX12_movedBits_6 : decode cX12_movedBits 6 = .ok (.getfield 93, 3) := by decide +kernel
theorem dX12_movedBits_9 : decode cX12_movedBits 9 = .ok (.if_icmp .ge 31, 3) := by decide +kernel
theorem dX12_movedBits_12 : decode cX12_movedBits 12 = .ok (.iload_n 1, 1) := by decide +kernel
theorem dX12_movedBits_13 : decode cX12_movedBits 13 = .ok (.aload_n 0, 1) := by decide +kernel
theorem dX12_movedBits_14 : decode cX12_movedBits 14 = .ok (.aload_n 0, 1) := by decide +kernel
theorem dX12_movedBits_15 : decode cX12_movedBits 15 = .ok (.getfield 31, 3) := by decide +kernel
theorem dX12_movedBits_18 : decode cX12_movedBits 18 = .ok (.iload_n 2, 1) := by decide +kernel
theorem dX12_movedBits_19 : decode cX12_movedBits 19 = .ok (.invokevirtual 124, 3) := by decide +kernel
theorem dX12_movedBits_22 : decode cX12_movedBits 22 = .ok (.ifCond .eq 9, 3) := by decide +kernel
theorem dX12_movedBits_25 : decode cX12_movedBits 25 = .ok (.iconst 1, 1) := by decide +kernel
theorem dX12_movedBits_26 : decode cX12_movedBits 26 = .ok (.iload_n 2, 1) := by decide +kernel
theorem dX12_movedBits_27 : decode cX12_movedBits 27 = .ok (.ishl, 1) := by decide +kernel
theorem dX12_movedBits_28 : decode cX12_movedBits 28 = .ok (.goto 4, 3) := by decide +kernel
theorem dX12_movedBits_31 : decode cX12_movedBits 31 = .ok (.iconst 0, 1) := by decide +kernel
theorem dX12_movedBits_32 : decode cX12_movedBits 32 = .ok (.ior, 1) := by decide +kernel
theorem dX12_movedBits_33 : decode cX12_movedBits 33 = .ok (.istore_n 1, 1) := by decide +kernel
theorem dX12_movedBits_34 : decode cX12_movedBits 34 = .ok (.iinc 2 1, 3) := by decide +kernel
theorem dX12_movedBits_37 : decode cX12_movedBits 37 = .ok (.goto (-33), 3) := by decide +kernel
theorem dX12_movedBits_40 : decode cX12_movedBits 40 = .ok (.iload_n 1, 1) := by decide +kernel
theorem dX12_movedBits_41 : decode cX12_movedBits 41 = .ok (.ireturn, 1) := by decide +kernel
theorem dX12_told_0 : decode cX12_told 0 = .ok (.iload_n 1, 1) := by decide +kernel
theorem dX12_told_1 : decode cX12_told 1 = .ok (.tableswitch 121 0 7 #[47, 56, 65, 73, 78, 90, 99, 116], 47) := by decide +kernel
theorem dX12_told_48 : decode cX12_told 48 = .ok (.aload_n 0, 1) := by decide +kernel
theorem dX12_told_49 : decode cX12_told 49 = .ok (.aload_n 0, 1) := by decide +kernel
theorem dX12_told_50 : decode cX12_told 50 = .ok (.getfield 31, 3) := by decide +kernel
theorem dX12_told_53 : decode cX12_told 53 = .ok (.invokevirtual 138, 3) := by decide +kernel
theorem dX12_told_56 : decode cX12_told 56 = .ok (.ireturn, 1) := by decide +kernel
theorem dX12_told_57 : decode cX12_told 57 = .ok (.aload_n 0, 1) := by decide +kernel
theorem dX12_told_58 : decode cX12_told 58 = .ok (.aload_n 0, 1) := by decide +kernel
theorem dX12_told_59 : decode cX12_told 59 = .ok (.getfield 31, 3) := by decide +kernel
theorem dX12_told_62 : decode cX12_told 62 = .ok (.invokevirtual 141, 3) := by decide +kernel
theorem dX12_told_65 : decode cX12_told 65 = .ok (.ireturn, 1) := by decide +kernel
theorem dX12_told_66 : decode cX12_told 66 = .ok (.aload_n 0, 1) := by decide +kernel
theorem dX12_told_67 : decode cX12_told 67 = .ok (.invokevirtual 154, 3) := by decide +kernel
theorem dX12_told_70 : decode cX12_told 70 = .ok (.invokestatic 158, 3) := by decide +kernel
theorem dX12_told_73 : decode cX12_told 73 = .ok (.ireturn, 1) := by decide +kernel
theorem dX12_told_74 : decode cX12_told 74 = .ok (.aload_n 0, 1) := by decide +kernel
theorem dX12_told_75 : decode cX12_told 75 = .ok (.invokevirtual 154, 3) := by decide +kernel
theorem dX12_told_78 : decode cX12_told 78 = .ok (.ireturn, 1) := by decide +kernel
theorem dX12_told_79 : decode cX12_told 79 = .ok (.aload_n 0, 1) := by decide +kernel
theorem dX12_told_80 : decode cX12_told 80 = .ok (.aload_n 0, 1) := by decide +kernel
theorem dX12_told_81 : decode cX12_told 81 = .ok (.getfield 31, 3) := by decide +kernel
theorem dX12_told_84 : decode cX12_told 84 = .ok (.invokevirtual 134, 3) := by decide +kernel
theorem dX12_told_87 : decode cX12_told 87 = .ok (.invokestatic 158, 3) := by decide +kernel
theorem dX12_told_90 : decode cX12_told 90 = .ok (.ireturn, 1) := by decide +kernel
theorem dX12_told_91 : decode cX12_told 91 = .ok (.aload_n 0, 1) := by decide +kernel
theorem dX12_told_92 : decode cX12_told 92 = .ok (.aload_n 0, 1) := by decide +kernel
theorem dX12_told_93 : decode cX12_told 93 = .ok (.getfield 31, 3) := by decide +kernel
theorem dX12_told_96 : decode cX12_told 96 = .ok (.invokevirtual 134, 3) := by decide +kernel
theorem dX12_told_99 : decode cX12_told 99 = .ok (.ireturn, 1) := by decide +kernel
theorem dX12_told_100 : decode cX12_told 100 = .ok (.aload_n 0, 1) := by decide +kernel
theorem dX12_told_101 : decode cX12_told 101 = .ok (.aload_n 0, 1) := by decide +kernel
theorem dX12_told_102 : decode cX12_told 102 = .ok (.getfield 31, 3) := by decide +kernel
theorem dX12_told_105 : decode cX12_told 105 = .ok (.invokevirtual 130, 3) := by decide +kernel
theorem dX12_told_108 : decode cX12_told 108 = .ok (.ifCond .eq 7, 3) := by decide +kernel
theorem dX12_told_111 : decode cX12_told 111 = .ok (.iconst 1, 1) := by decide +kernel
theorem dX12_told_112 : decode cX12_told 112 = .ok (.goto 4, 3) := by decide +kernel
theorem dX12_told_115 : decode cX12_told 115 = .ok (.iconst 0, 1) := by decide +kernel
theorem dX12_told_116 : decode cX12_told 116 = .ok (.ireturn, 1) := by decide +kernel
theorem dX12_told_117 : decode cX12_told 117 = .ok (.aload_n 0, 1) := by decide +kernel
theorem dX12_told_118 : decode cX12_told 118 = .ok (.getfield 58, 3) := by decide +kernel
theorem dX12_told_121 : decode cX12_told 121 = .ok (.ireturn, 1) := by decide +kernel
theorem dX12_told_122 : decode cX12_told 122 = .ok (.bipush (-2), 2) := by decide +kernel
theorem dX12_told_124 : decode cX12_told 124 = .ok (.ireturn, 1) := by decide +kernel
theorem dX12_near_0 : decode cX12_near 0 = .ok (.iload_n 1, 1) := by decide +kernel
theorem dX12_near_1 : decode cX12_near 1 = .ok (.iconst 0, 1) := by decide +kernel
theorem dX12_near_2 : decode cX12_near 2 = .ok (.sipush 2000, 3) := by decide +kernel
theorem dX12_near_5 : decode cX12_near 5 = .ok (.invokestatic 96, 3) := by decide +kernel
theorem dX12_near_8 : decode cX12_near 8 = .ok (.ifCond .eq 6, 3) := by decide +kernel
theorem dX12_near_11 : decode cX12_near 11 = .ok (.bipush (-2), 2) := by decide +kernel
theorem dX12_near_13 : decode cX12_near 13 = .ok (.ireturn, 1) := by decide +kernel
theorem dX12_near_14 : decode cX12_near 14 = .ok (.aload_n 0, 1) := by decide +kernel
theorem dX12_near_15 : decode cX12_near 15 = .ok (.getfield 93, 3) := by decide +kernel
theorem dX12_near_18 : decode cX12_near 18 = .ok (.ifCond .ne 6, 3) := by decide +kernel
theorem dX12_near_21 : decode cX12_near 21 = .ok (.bipush (-3), 2) := by decide +kernel
theorem dX12_near_23 : decode cX12_near 23 = .ok (.ireturn, 1) := by decide +kernel
theorem dX12_near_24 : decode cX12_near 24 = .ok (.iconst 0, 1) := by decide +kernel
theorem dX12_near_25 : decode cX12_near 25 = .ok (.istore_n 2, 1) := by decide +kernel
theorem dX12_near_26 : decode cX12_near 26 = .ok (.iconst 1, 1) := by decide +kernel
theorem dX12_near_27 : decode cX12_near 27 = .ok (.istore_n 3, 1) := by decide +kernel
theorem dX12_near_28 : decode cX12_near 28 = .ok (.aload_n 0, 1) := by decide +kernel
theorem dX12_near_29 : decode cX12_near 29 = .ok (.invokevirtual 127, 3) := by decide +kernel
theorem dX12_near_32 : decode cX12_near 32 = .ok (.iload_n 3, 1) := by decide +kernel
theorem dX12_near_33 : decode cX12_near 33 = .ok (.ifCond .eq 53, 3) := by decide +kernel
theorem dX12_near_36 : decode cX12_near 36 = .ok (.iload_n 2, 1) := by decide +kernel
theorem dX12_near_37 : decode cX12_near 37 = .ok (.aload_n 0, 1) := by decide +kernel
theorem dX12_near_38 : decode cX12_near 38 = .ok (.aload_n 0, 1) := by decide +kernel
theorem dX12_near_39 : decode cX12_near 39 = .ok (.getfield 68, 3) := by decide +kernel
theorem dX12_near_42 : decode cX12_near 42 = .ok (.invokevirtual 130, 3) := by decide +kernel
theorem dX12_near_45 : decode cX12_near 45 = .ok (.ifCond .eq 30, 3) := by decide +kernel
theorem dX12_near_48 : decode cX12_near 48 = .ok (.aload_n 0, 1) := by decide +kernel
theorem dX12_near_49 : decode cX12_near 49 = .ok (.aload_n 0, 1) := by decide +kernel
theorem dX12_near_50 : decode cX12_near 50 = .ok (.getfield 68, 3) := by decide +kernel
theorem dX12_near_53 : decode cX12_near 53 = .ok (.invokevirtual 134, 3) := by decide +kernel
theorem dX12_near_56 : decode cX12_near 56 = .ok (.ifCond .ne 19, 3) := by decide +kernel
theorem dX12_near_59 : decode cX12_near 59 = .ok (.aload_n 0, 1) := by decide +kernel
theorem dX12_near_60 : decode cX12_near 60 = .ok (.aload_n 0, 1) := by decide +kernel
theorem dX12_near_61 : decode cX12_near 61 = .ok (.getfield 68, 3) := by decide +kernel
theorem dX12_near_64 : decode cX12_near 64 = .ok (.invokevirtual 138, 3) := by decide +kernel
theorem dX12_near_67 : decode cX12_near 67 = .ok (.iload_n 1, 1) := by decide +kernel
theorem dX12_near_68 : decode cX12_near 68 = .ok (.if_icmp .gt 7, 3) := by decide +kernel
theorem dX12_near_71 : decode cX12_near 71 = .ok (.iconst 1, 1) := by decide +kernel
theorem dX12_near_72 : decode cX12_near 72 = .ok (.goto 4, 3) := by decide +kernel
theorem dX12_near_75 : decode cX12_near 75 = .ok (.iconst 0, 1) := by decide +kernel
theorem dX12_near_76 : decode cX12_near 76 = .ok (.iadd, 1) := by decide +kernel
theorem dX12_near_77 : decode cX12_near 77 = .ok (.istore_n 2, 1) := by decide +kernel
theorem dX12_near_78 : decode cX12_near 78 = .ok (.aload_n 0, 1) := by decide +kernel
theorem dX12_near_79 : decode cX12_near 79 = .ok (.invokevirtual 144, 3) := by decide +kernel
theorem dX12_near_82 : decode cX12_near 82 = .ok (.istore_n 3, 1) := by decide +kernel
theorem dX12_near_83 : decode cX12_near 83 = .ok (.goto (-51), 3) := by decide +kernel
theorem dX12_near_86 : decode cX12_near 86 = .ok (.iload_n 2, 1) := by decide +kernel
theorem dX12_near_87 : decode cX12_near 87 = .ok (.ireturn, 1) := by decide +kernel
theorem dX12_least_0 : decode cX12_least 0 = .ok (.aload_n 0, 1) := by decide +kernel
theorem dX12_least_1 : decode cX12_least 1 = .ok (.getfield 93, 3) := by decide +kernel
theorem dX12_least_4 : decode cX12_least 4 = .ok (.ifCond .ne 8, 3) := by decide +kernel
theorem dX12_least_7 : decode cX12_least 7 = .ok (.bipush (-3), 2) := by decide +kernel
theorem dX12_least_9 : decode cX12_least 9 = .ok (.goto 8, 3) := by decide +kernel
theorem dX12_least_12 : decode cX12_least 12 = .ok (.aload_n 0, 1) := by decide +kernel
theorem dX12_least_13 : decode cX12_least 13 = .ok (.iconst (-1), 1) := by decide +kernel
theorem dX12_least_14 : decode cX12_least 14 = .ok (.invokevirtual 162, 3) := by decide +kernel
theorem dX12_least_17 : decode cX12_least 17 = .ok (.ireturn, 1) := by decide +kernel
theorem dX12_without_0 : decode cX12_without 0 = .ok (.iload_n 1, 1) := by decide +kernel
theorem dX12_without_1 : decode cX12_without 1 = .ok (.iconst 0, 1) := by decide +kernel
theorem dX12_without_2 : decode cX12_without 2 = .ok (.aload_n 0, 1) := by decide +kernel
theorem dX12_without_3 : decode cX12_without 3 = .ok (.getfield 114, 3) := by decide +kernel
theorem dX12_without_6 : decode cX12_without 6 = .ok (.iconst 1, 1) := by decide +kernel
theorem dX12_without_7 : decode cX12_without 7 = .ok (.isub, 1) := by decide +kernel
theorem dX12_without_8 : decode cX12_without 8 = .ok (.invokestatic 96, 3) := by decide +kernel
theorem dX12_without_11 : decode cX12_without 11 = .ok (.ifCond .eq 5, 3) := by decide +kernel
theorem dX12_without_14 : decode cX12_without 14 = .ok (.iconst (-1), 1) := by decide +kernel
theorem dX12_without_15 : decode cX12_without 15 = .ok (.ireturn, 1) := by decide +kernel
theorem dX12_without_16 : decode cX12_without 16 = .ok (.aload_n 0, 1) := by decide +kernel
theorem dX12_without_17 : decode cX12_without 17 = .ok (.getfield 93, 3) := by decide +kernel
theorem dX12_without_20 : decode cX12_without 20 = .ok (.ifCond .ne 8, 3) := by decide +kernel
theorem dX12_without_23 : decode cX12_without 23 = .ok (.bipush (-3), 2) := by decide +kernel
theorem dX12_without_25 : decode cX12_without 25 = .ok (.goto 8, 3) := by decide +kernel
theorem dX12_without_28 : decode cX12_without 28 = .ok (.aload_n 0, 1) := by decide +kernel
theorem dX12_without_29 : decode cX12_without 29 = .ok (.iload_n 1, 1) := by decide +kernel
theorem dX12_without_30 : decode cX12_without 30 = .ok (.invokevirtual 162, 3) := by decide +kernel
theorem dX12_without_33 : decode cX12_without 33 = .ok (.ireturn, 1) := by decide +kernel
theorem dX12_spare_0 : decode cX12_spare 0 = .ok (.iload_n 1, 1) := by decide +kernel
theorem dX12_spare_1 : decode cX12_spare 1 = .ok (.iconst 0, 1) := by decide +kernel
theorem dX12_spare_2 : decode cX12_spare 2 = .ok (.iconst 3, 1) := by decide +kernel
theorem dX12_spare_3 : decode cX12_spare 3 = .ok (.invokestatic 96, 3) := by decide +kernel
theorem dX12_spare_6 : decode cX12_spare 6 = .ok (.ifCond .eq 6, 3) := by decide +kernel
theorem dX12_spare_9 : decode cX12_spare 9 = .ok (.bipush (-2), 2) := by decide +kernel
theorem dX12_spare_11 : decode cX12_spare 11 = .ok (.ireturn, 1) := by decide +kernel
theorem dX12_spare_12 : decode cX12_spare 12 = .ok (.aload_n 0, 1) := by decide +kernel
theorem dX12_spare_13 : decode cX12_spare 13 = .ok (.getfield 93, 3) := by decide +kernel
theorem dX12_spare_16 : decode cX12_spare 16 = .ok (.ifCond .ne 6, 3) := by decide +kernel
theorem dX12_spare_19 : decode cX12_spare 19 = .ok (.bipush (-3), 2) := by decide +kernel
theorem dX12_spare_21 : decode cX12_spare 21 = .ok (.ireturn, 1) := by decide +kernel
theorem dX12_spare_22 : decode cX12_spare 22 = .ok (.aload_n 0, 1) := by decide +kernel
theorem dX12_spare_23 : decode cX12_spare 23 = .ok (.getfield 34, 3) := by decide +kernel
theorem dX12_spare_26 : decode cX12_spare 26 = .ok (.iload_n 1, 1) := by decide +kernel
theorem dX12_spare_27 : decode cX12_spare 27 = .ok (.iaload, 1) := by decide +kernel
theorem dX12_spare_28 : decode cX12_spare 28 = .ok (.istore_n 2, 1) := by decide +kernel
theorem dX12_spare_29 : decode cX12_spare 29 = .ok (.aload_n 0, 1) := by decide +kernel
theorem dX12_spare_30 : decode cX12_spare 30 = .ok (.getfield 34, 3) := by decide +kernel
theorem dX12_spare_33 : decode cX12_spare 33 = .ok (.iload_n 1, 1) := by decide +kernel
theorem dX12_spare_34 : decode cX12_spare 34 = .ok (.iconst 0, 1) := by decide +kernel
theorem dX12_spare_35 : decode cX12_spare 35 = .ok (.iastore, 1) := by decide +kernel
theorem dX12_spare_36 : decode cX12_spare 36 = .ok (.aload_n 0, 1) := by decide +kernel
theorem dX12_spare_37 : decode cX12_spare 37 = .ok (.iconst (-1), 1) := by decide +kernel
theorem dX12_spare_38 : decode cX12_spare 38 = .ok (.invokevirtual 162, 3) := by decide +kernel
theorem dX12_spare_41 : decode cX12_spare 41 = .ok (.istore_n 3, 1) := by decide +kernel
theorem dX12_spare_42 : decode cX12_spare 42 = .ok (.aload_n 0, 1) := by decide +kernel
theorem dX12_spare_43 : decode cX12_spare 43 = .ok (.getfield 34, 3) := by decide +kernel
theorem dX12_spare_46 : decode cX12_spare 46 = .ok (.iload_n 1, 1) := by decide +kernel
theorem dX12_spare_47 : decode cX12_spare 47 = .ok (.iload_n 2, 1) := by decide +kernel
theorem dX12_spare_48 : decode cX12_spare 48 = .ok (.iastore, 1) := by decide +kernel
theorem dX12_spare_49 : decode cX12_spare 49 = .ok (.iload_n 3, 1) := by decide +kernel
theorem dX12_spare_50 : decode cX12_spare 50 = .ok (.ireturn, 1) := by decide +kernel
theorem dX12_why_0 : decode cX12_why 0 = .ok (.aload_n 0, 1) := by decide +kernel
theorem dX12_why_1 : decode cX12_why 1 = .ok (.iload_n 1, 1) := by decide +kernel
theorem dX12_why_2 : decode cX12_why 2 = .ok (.invokevirtual 103, 3) := by decide +kernel
theorem dX12_why_5 : decode cX12_why 5 = .ok (.ifCond .eq 5, 3) := by decide +kernel
theorem dX12_why_8 : decode cX12_why 8 = .ok (.iconst (-1), 1) := by decide +kernel
theorem dX12_why_9 : decode cX12_why 9 = .ok (.ireturn, 1) := by decide +kernel
theorem dX12_why_10 : decode cX12_why 10 = .ok (.aload_n 0, 1) := by decide +kernel
theorem dX12_why_11 : decode cX12_why 11 = .ok (.aload_n 0, 1) := by decide +kernel
theorem dX12_why_12 : decode cX12_why 12 = .ok (.getfield 31, 3) := by decide +kernel
theorem dX12_why_15 : decode cX12_why 15 = .ok (.iload_n 1, 1) := by decide +kernel
theorem dX12_why_16 : decode cX12_why 16 = .ok (.invokevirtual 124, 3) := by decide +kernel
theorem dX12_why_19 : decode cX12_why 19 = .ok (.ifCond .ne 6, 3) := by decide +kernel
theorem dX12_why_22 : decode cX12_why 22 = .ok (.bipush (-3), 2) := by decide +kernel
theorem dX12_why_24 : decode cX12_why 24 = .ok (.ireturn, 1) := by decide +kernel
theorem dX12_why_25 : decode cX12_why 25 = .ok (.iconst 0, 1) := by decide +kernel
theorem dX12_why_26 : decode cX12_why 26 = .ok (.istore_n 2, 1) := by decide +kernel
theorem dX12_why_27 : decode cX12_why 27 = .ok (.iload_n 2, 1) := by decide +kernel
theorem dX12_why_28 : decode cX12_why 28 = .ok (.aload_n 0, 1) := by decide +kernel
theorem dX12_why_29 : decode cX12_why 29 = .ok (.getfield 111, 3) := by decide +kernel
theorem dX12_why_32 : decode cX12_why 32 = .ok (.if_icmp .ge 97, 3) := by decide +kernel
theorem dX12_why_35 : decode cX12_why 35 = .ok (.aload_n 0, 1) := by decide +kernel
theorem dX12_why_36 : decode cX12_why 36 = .ok (.getfield 37, 3) := by decide +kernel
theorem dX12_why_39 : decode cX12_why 39 = .ok (.iload_n 2, 1) := by decide +kernel
theorem dX12_why_40 : decode cX12_why 40 = .ok (.iaload, 1) := by decide +kernel
theorem dX12_why_41 : decode cX12_why 41 = .ok (.istore_n 3, 1) := by decide +kernel
theorem dX12_why_42 : decode cX12_why 42 = .ok (.aload_n 0, 1) := by decide +kernel
theorem dX12_why_43 : decode cX12_why 43 = .ok (.getfield 55, 3) := by decide +kernel
theorem dX12_why_46 : decode cX12_why 46 = .ok (.bipush 6, 2) := by decide +kernel
theorem dX12_why_48 : decode cX12_why 48 = .ok (.aload_n 0, 1) := by decide +kernel
theorem dX12_why_49 : decode cX12_why 49 = .ok (.getfield 58, 3) := by decide +kernel
theorem dX12_why_52 : decode cX12_why 52 = .ok (.imul, 1) := by decide +kernel
theorem dX12_why_53 : decode cX12_why 53 = .ok (.iload_n 2, 1) := by decide +kernel
theorem dX12_why_54 : decode cX12_why 54 = .ok (.iadd, 1) := by decide +kernel
theorem dX12_why_55 : decode cX12_why 55 = .ok (.iaload, 1) := by decide +kernel
theorem dX12_why_56 : decode cX12_why 56 = .ok (.istore 4, 2) := by decide +kernel
theorem dX12_why_58 : decode cX12_why 58 = .ok (.iload_n 3, 1) := by decide +kernel
theorem dX12_why_59 : decode cX12_why 59 = .ok (.iload 4, 2) := by decide +kernel
theorem dX12_why_61 : decode cX12_why 61 = .ok (.if_icmp .eq 62, 3) := by decide +kernel
theorem dX12_why_64 : decode cX12_why 64 = .ok (.aload_n 0, 1) := by decide +kernel
theorem dX12_why_65 : decode cX12_why 65 = .ok (.getfield 37, 3) := by decide +kernel
theorem dX12_why_68 : decode cX12_why 68 = .ok (.iload_n 2, 1) := by decide +kernel
theorem dX12_why_69 : decode cX12_why 69 = .ok (.iload 4, 2) := by decide +kernel
theorem dX12_why_71 : decode cX12_why 71 = .ok (.iastore, 1) := by decide +kernel
theorem dX12_why_72 : decode cX12_why 72 = .ok (.aload_n 0, 1) := by decide +kernel
theorem dX12_why_73 : decode cX12_why 73 = .ok (.invokevirtual 148, 3) := by decide +kernel
theorem dX12_why_76 : decode cX12_why 76 = .ok (.ifCond .eq 30, 3) := by decide +kernel
theorem dX12_why_79 : decode cX12_why 79 = .ok (.aload_n 0, 1) := by decide +kernel
theorem dX12_why_80 : decode cX12_why 80 = .ok (.getfield 71, 3) := by decide +kernel
theorem dX12_why_83 : decode cX12_why 83 = .ok (.iload_n 1, 1) := by decide +kernel
theorem dX12_why_84 : decode cX12_why 84 = .ok (.iaload, 1) := by decide +kernel
theorem dX12_why_85 : decode cX12_why 85 = .ok (.aload_n 0, 1) := by decide +kernel
theorem dX12_why_86 : decode cX12_why 86 = .ok (.getfield 52, 3) := by decide +kernel
theorem dX12_why_89 : decode cX12_why 89 = .ok (.bipush 6, 2) := by decide +kernel
theorem dX12_why_91 : decode cX12_why 91 = .ok (.aload_n 0, 1) := by decide +kernel
theorem dX12_why_92 : decode cX12_why 92 = .ok (.getfield 58, 3) := by decide +kernel
theorem dX12_why_95 : decode cX12_why 95 = .ok (.imul, 1) := by decide +kernel
theorem dX12_why_96 : decode cX12_why 96 = .ok (.iload_n 1, 1) := by decide +kernel
theorem dX12_why_97 : decode cX12_why 97 = .ok (.iadd, 1) := by decide +kernel
theorem dX12_why_98 : decode cX12_why 98 = .ok (.iaload, 1) := by decide +kernel
theorem dX12_why_99 : decode cX12_why 99 = .ok (.if_icmp .ne 7, 3) := by decide +kernel
theorem dX12_why_102 : decode cX12_why 102 = .ok (.iconst 1, 1) := by decide +kernel
theorem dX12_why_103 : decode cX12_why 103 = .ok (.goto 4, 3) := by decide +kernel
theorem dX12_why_106 : decode cX12_why 106 = .ok (.iconst 0, 1) := by decide +kernel
theorem dX12_why_107 : decode cX12_why 107 = .ok (.istore 5, 2) := by decide +kernel
theorem dX12_why_109 : decode cX12_why 109 = .ok (.aload_n 0, 1) := by decide +kernel
theorem dX12_why_110 : decode cX12_why 110 = .ok (.getfield 37, 3) := by decide +kernel
theorem dX12_why_113 : decode cX12_why 113 = .ok (.iload_n 2, 1) := by decide +kernel
theorem dX12_why_114 : decode cX12_why 114 = .ok (.iload_n 3, 1) := by decide +kernel
theorem dX12_why_115 : decode cX12_why 115 = .ok (.iastore, 1) := by decide +kernel
theorem dX12_why_116 : decode cX12_why 116 = .ok (.iload 5, 2) := by decide +kernel
theorem dX12_why_118 : decode cX12_why 118 = .ok (.ifCond .eq 5, 3) := by decide +kernel
theorem dX12_why_121 : decode cX12_why 121 = .ok (.iload_n 2, 1) := by decide +kernel
theorem dX12_why_122 : decode cX12_why 122 = .ok (.ireturn, 1) := by decide +kernel
theorem dX12_why_123 : decode cX12_why 123 = .ok (.iinc 2 1, 3) := by decide +kernel
theorem dX12_why_126 : decode cX12_why 126 = .ok (.goto (-99), 3) := by decide +kernel
theorem dX12_why_129 : decode cX12_why 129 = .ok (.bipush (-5), 2) := by decide +kernel
theorem dX12_why_131 : decode cX12_why 131 = .ok (.ireturn, 1) := by decide +kernel
theorem dX12_goOn_0 : decode cX12_goOn 0 = .ok (.iload_n 1, 1) := by decide +kernel
theorem dX12_goOn_1 : decode cX12_goOn 1 = .ok (.ifCond .ne 83, 3) := by decide +kernel
theorem dX12_goOn_4 : decode cX12_goOn 4 = .ok (.iload_n 3, 1) := by decide +kernel
theorem dX12_goOn_5 : decode cX12_goOn 5 = .ok (.aload_n 0, 1) := by decide +kernel
theorem dX12_goOn_6 : decode cX12_goOn 6 = .ok (.getfield 165, 3) := by decide +kernel
theorem dX12_goOn_9 : decode cX12_goOn 9 = .ok (.if_icmp .lt 20, 3) := by decide +kernel
theorem dX12_goOn_12 : decode cX12_goOn 12 = .ok (.iload_n 3, 1) := by decide +kernel
theorem dX12_goOn_13 : decode cX12_goOn 13 = .ok (.aload_n 0, 1) := by decide +kernel
theorem dX12_goOn_14 : decode cX12_goOn 14 = .ok (.getfield 165, 3) := by decide +kernel
theorem dX12_goOn_17 : decode cX12_goOn 17 = .ok (.if_icmp .ne 66, 3) := by decide +kernel
theorem dX12_goOn_20 : decode cX12_goOn 20 = .ok (.iload 4, 2) := by decide +kernel
theorem dX12_goOn_22 : decode cX12_goOn 22 = .ok (.aload_n 0, 1) := by decide +kernel
theorem dX12_goOn_23 : decode cX12_goOn 23 = .ok (.getfield 168, 3) := by decide +kernel
theorem dX12_goOn_26 : decode cX12_goOn 26 = .ok (.if_icmp .ge 57, 3) := by decide +kernel
theorem dX12_goOn_29 : decode cX12_goOn 29 = .ok (.aload_n 0, 1) := by decide +kernel
theorem dX12_goOn_30 : decode cX12_goOn 30 = .ok (.iload_n 3, 1) := by decide +kernel
theorem dX12_goOn_31 : decode cX12_goOn 31 = .ok (.putfield 165, 3) := by decide +kernel
theorem dX12_goOn_34 : decode cX12_goOn 34 = .ok (.aload_n 0, 1) := by decide +kernel
theorem dX12_goOn_35 : decode cX12_goOn 35 = .ok (.iload 4, 2) := by decide +kernel
theorem dX12_goOn_37 : decode cX12_goOn 37 = .ok (.putfield 168, 3) := by decide +kernel
theorem dX12_goOn_40 : decode cX12_goOn 40 = .ok (.iconst 0, 1) := by decide +kernel
theorem dX12_goOn_41 : decode cX12_goOn 41 = .ok (.istore 5, 2) := by decide +kernel
theorem dX12_goOn_43 : decode cX12_goOn 43 = .ok (.iload 5, 2) := by decide +kernel
theorem dX12_goOn_45 : decode cX12_goOn 45 = .ok (.iload_n 2, 1) := by decide +kernel
theorem dX12_goOn_46 : decode cX12_goOn 46 = .ok (.if_icmp .ge 37, 3) := by decide +kernel
theorem dX12_goOn_49 : decode cX12_goOn 49 = .ok (.aload_n 0, 1) := by decide +kernel
theorem dX12_goOn_50 : decode cX12_goOn 50 = .ok (.getfield 80, 3) := by decide +kernel
theorem dX12_goOn_53 : decode cX12_goOn 53 = .ok (.iload 5, 2) := by decide +kernel
theorem dX12_goOn_55 : decode cX12_goOn 55 = .ok (.aload_n 0, 1) := by decide +kernel
theorem dX12_goOn_56 : decode cX12_goOn 56 = .ok (.getfield 77, 3) := by decide +kernel
theorem dX12_goOn_59 : decode cX12_goOn 59 = .ok (.iload 5, 2) := by decide +kernel
theorem dX12_goOn_61 : decode cX12_goOn 61 = .ok (.iaload, 1) := by decide +kernel
theorem dX12_goOn_62 : decode cX12_goOn 62 = .ok (.iastore, 1) := by decide +kernel
theorem dX12_goOn_63 : decode cX12_goOn 63 = .ok (.aload_n 0, 1) := by decide +kernel
theorem dX12_goOn_64 : decode cX12_goOn 64 = .ok (.getfield 83, 3) := by decide +kernel
theorem dX12_goOn_67 : decode cX12_goOn 67 = .ok (.iload 5, 2) := by decide +kernel
theorem dX12_goOn_69 : decode cX12_goOn 69 = .ok (.aload_n 0, 1) := by decide +kernel
theorem dX12_goOn_70 : decode cX12_goOn 70 = .ok (.getfield 86, 3) := by decide +kernel
theorem dX12_goOn_73 : decode cX12_goOn 73 = .ok (.iload 5, 2) := by decide +kernel
theorem dX12_goOn_75 : decode cX12_goOn 75 = .ok (.iaload, 1) := by decide +kernel
theorem dX12_goOn_76 : decode cX12_goOn 76 = .ok (.iastore, 1) := by decide +kernel
theorem dX12_goOn_77 : decode cX12_goOn 77 = .ok (.iinc 5 1, 3) := by decide +kernel
theorem dX12_goOn_80 : decode cX12_goOn 80 = .ok (.goto (-37), 3) := by decide +kernel
theorem dX12_goOn_83 : decode cX12_goOn 83 = .ok (.return_, 1) := by decide +kernel
theorem dX12_goOn_84 : decode cX12_goOn 84 = .ok (.iconst 0, 1) := by decide +kernel
theorem dX12_goOn_85 : decode cX12_goOn 85 = .ok (.istore 5, 2) := by decide +kernel
theorem dX12_goOn_87 : decode cX12_goOn 87 = .ok (.iload 5, 2) := by decide +kernel
theorem dX12_goOn_89 : decode cX12_goOn 89 = .ok (.aload_n 0, 1) := by decide +kernel
theorem dX12_goOn_90 : decode cX12_goOn 90 = .ok (.getfield 93, 3) := by decide +kernel
theorem dX12_goOn_93 : decode cX12_goOn 93 = .ok (.if_icmp .ge 116, 3) := by decide +kernel
theorem dX12_goOn_96 : decode cX12_goOn 96 = .ok (.iload_n 1, 1) := by decide +kernel
theorem dX12_goOn_97 : decode cX12_goOn 97 = .ok (.iload 5, 2) := by decide +kernel
theorem dX12_goOn_99 : decode cX12_goOn 99 = .ok (.ishr, 1) := by decide +kernel
theorem dX12_goOn_100 : decode cX12_goOn 100 = .ok (.iconst 1, 1) := by decide +kernel
theorem dX12_goOn_101 : decode cX12_goOn 101 = .ok (.iand, 1) := by decide +kernel
theorem dX12_goOn_102 : decode cX12_goOn 102 = .ok (.iconst 1, 1) := by decide +kernel
theorem dX12_goOn_103 : decode cX12_goOn 103 = .ok (.if_icmp .ne 100, 3) := by decide +kernel
theorem dX12_goOn_106 : decode cX12_goOn 106 = .ok (.aload_n 0, 1) := by decide +kernel
theorem dX12_goOn_107 : decode cX12_goOn 107 = .ok (.getfield 74, 3) := by decide +kernel
theorem dX12_goOn_110 : decode cX12_goOn 110 = .ok (.iload 5, 2) := by decide +kernel
theorem dX12_goOn_112 : decode cX12_goOn 112 = .ok (.aload_n 0, 1) := by decide +kernel
theorem dX12_goOn_113 : decode cX12_goOn 113 = .ok (.getfield 31, 3) := by decide +kernel
theorem dX12_goOn_116 : decode cX12_goOn 116 = .ok (.iload 5, 2) := by decide +kernel
theorem dX12_goOn_118 : decode cX12_goOn 118 = .ok (.iaload, 1) := by decide +kernel
theorem dX12_goOn_119 : decode cX12_goOn 119 = .ok (.iastore, 1) := by decide +kernel
theorem dX12_goOn_120 : decode cX12_goOn 120 = .ok (.aload_n 0, 1) := by decide +kernel
theorem dX12_goOn_121 : decode cX12_goOn 121 = .ok (.getfield 77, 3) := by decide +kernel
theorem dX12_goOn_124 : decode cX12_goOn 124 = .ok (.iload_n 2, 1) := by decide +kernel
theorem dX12_goOn_125 : decode cX12_goOn 125 = .ok (.iload 5, 2) := by decide +kernel
theorem dX12_goOn_127 : decode cX12_goOn 127 = .ok (.iastore, 1) := by decide +kernel
theorem dX12_goOn_128 : decode cX12_goOn 128 = .ok (.aload_n 0, 1) := by decide +kernel
theorem dX12_goOn_129 : decode cX12_goOn 129 = .ok (.aload_n 0, 1) := by decide +kernel
theorem dX12_goOn_130 : decode cX12_goOn 130 = .ok (.getfield 74, 3) := by decide +kernel
theorem dX12_goOn_133 : decode cX12_goOn 133 = .ok (.invokevirtual 134, 3) := by decide +kernel
theorem dX12_goOn_136 : decode cX12_goOn 136 = .ok (.invokestatic 158, 3) := by decide +kernel
theorem dX12_goOn_139 : decode cX12_goOn 139 = .ok (.istore 6, 2) := by decide +kernel
theorem dX12_goOn_141 : decode cX12_goOn 141 = .ok (.aload_n 0, 1) := by decide +kernel
theorem dX12_goOn_142 : decode cX12_goOn 142 = .ok (.getfield 86, 3) := by decide +kernel
theorem dX12_goOn_145 : decode cX12_goOn 145 = .ok (.iload_n 2, 1) := by decide +kernel
theorem dX12_goOn_146 : decode cX12_goOn 146 = .ok (.iload 6, 2) := by decide +kernel
theorem dX12_goOn_148 : decode cX12_goOn 148 = .ok (.iastore, 1) := by decide +kernel
theorem dX12_goOn_149 : decode cX12_goOn 149 = .ok (.aload_n 0, 1) := by decide +kernel
theorem dX12_goOn_150 : decode cX12_goOn 150 = .ok (.iload_n 1, 1) := by decide +kernel
theorem dX12_goOn_151 : decode cX12_goOn 151 = .ok (.iconst 1, 1) := by decide +kernel
theorem dX12_goOn_152 : decode cX12_goOn 152 = .ok (.iload 5, 2) := by decide +kernel
theorem dX12_goOn_154 : decode cX12_goOn 154 = .ok (.ishl, 1) := by decide +kernel
theorem dX12_goOn_155 : decode cX12_goOn 155 = .ok (.iconst (-1), 1) := by decide +kernel
theorem dX12_goOn_156 : decode cX12_goOn 156 = .ok (.ixor, 1) := by decide +kernel
theorem dX12_goOn_157 : decode cX12_goOn 157 = .ok (.iand, 1) := by decide +kernel
theorem dX12_goOn_158 : decode cX12_goOn 158 = .ok (.iload_n 2, 1) := by decide +kernel
theorem dX12_goOn_159 : decode cX12_goOn 159 = .ok (.iconst 1, 1) := by decide +kernel
theorem dX12_goOn_160 : decode cX12_goOn 160 = .ok (.iadd, 1) := by decide +kernel
theorem dX12_goOn_161 : decode cX12_goOn 161 = .ok (.iload 6, 2) := by decide +kernel
theorem dX12_goOn_163 : decode cX12_goOn 163 = .ok (.iload_n 3, 1) := by decide +kernel
theorem dX12_goOn_164 : decode cX12_goOn 164 = .ok (.if_icmp .le 8, 3) := by decide +kernel
theorem dX12_goOn_167 : decode cX12_goOn 167 = .ok (.iload 6, 2) := by decide +kernel
theorem dX12_goOn_169 : decode cX12_goOn 169 = .ok (.goto 4, 3) := by decide +kernel
theorem dX12_goOn_172 : decode cX12_goOn 172 = .ok (.iload_n 3, 1) := by decide +kernel
theorem dX12_goOn_173 : decode cX12_goOn 173 = .ok (.iload 4, 2) := by decide +kernel
theorem dX12_goOn_175 : decode cX12_goOn 175 = .ok (.iload 6, 2) := by decide +kernel
theorem dX12_goOn_177 : decode cX12_goOn 177 = .ok (.iadd, 1) := by decide +kernel
theorem dX12_goOn_178 : decode cX12_goOn 178 = .ok (.invokevirtual 171, 3) := by decide +kernel
theorem dX12_goOn_181 : decode cX12_goOn 181 = .ok (.aload_n 0, 1) := by decide +kernel
theorem dX12_goOn_182 : decode cX12_goOn 182 = .ok (.getfield 74, 3) := by decide +kernel
theorem dX12_goOn_185 : decode cX12_goOn 185 = .ok (.iload 5, 2) := by decide +kernel
theorem dX12_goOn_187 : decode cX12_goOn 187 = .ok (.aload_n 0, 1) := by decide +kernel
theorem dX12_goOn_188 : decode cX12_goOn 188 = .ok (.getfield 52, 3) := by decide +kernel
theorem dX12_goOn_191 : decode cX12_goOn 191 = .ok (.bipush 6, 2) := by decide +kernel
theorem dX12_goOn_193 : decode cX12_goOn 193 = .ok (.aload_n 0, 1) := by decide +kernel
theorem dX12_goOn_194 : decode cX12_goOn 194 = .ok (.getfield 58, 3) := by decide +kernel
theorem dX12_goOn_197 : decode cX12_goOn 197 = .ok (.imul, 1) := by decide +kernel
theorem dX12_goOn_198 : decode cX12_goOn 198 = .ok (.iload 5, 2) := by decide +kernel
theorem dX12_goOn_200 : decode cX12_goOn 200 = .ok (.iadd, 1) := by decide +kernel
theorem dX12_goOn_201 : decode cX12_goOn 201 = .ok (.iaload, 1) := by decide +kernel
theorem dX12_goOn_202 : decode cX12_goOn 202 = .ok (.iastore, 1) := by decide +kernel
theorem dX12_goOn_203 : decode cX12_goOn 203 = .ok (.iinc 5 1, 3) := by decide +kernel
theorem dX12_goOn_206 : decode cX12_goOn 206 = .ok (.goto (-119), 3) := by decide +kernel
theorem dX12_goOn_209 : decode cX12_goOn 209 = .ok (.return_, 1) := by decide +kernel
theorem dX12_findWay_0 : decode cX12_findWay 0 = .ok (.iconst 0, 1) := by decide +kernel
theorem dX12_findWay_1 : decode cX12_findWay 1 = .ok (.istore_n 1, 1) := by decide +kernel
theorem dX12_findWay_2 : decode cX12_findWay 2 = .ok (.iload_n 1, 1) := by decide +kernel
theorem dX12_findWay_3 : decode cX12_findWay 3 = .ok (.aload_n 0, 1) := by decide +kernel
theorem dX12_findWay_4 : decode cX12_findWay 4 = .ok (.getfield 93, 3) := by decide +kernel
theorem dX12_findWay_7 : decode cX12_findWay 7 = .ok (.if_icmp .ge 29, 3) := by decide +kernel
theorem dX12_findWay_10 : decode cX12_findWay 10 = .ok (.aload_n 0, 1) := by decide +kernel
theorem dX12_findWay_11 : decode cX12_findWay 11 = .ok (.getfield 74, 3) := by decide +kernel
theorem dX12_findWay_14 : decode cX12_findWay 14 = .ok (.iload_n 1, 1) := by decide +kernel
theorem dX12_findWay_15 : decode cX12_findWay 15 = .ok (.aload_n 0, 1) := by decide +kernel
theorem dX12_findWay_16 : decode cX12_findWay 16 = .ok (.getfield 52, 3) := by decide +kernel
theorem dX12_findWay_19 : decode cX12_findWay 19 = .ok (.bipush 6, 2) := by decide +kernel
theorem dX12_findWay_21 : decode cX12_findWay 21 = .ok (.aload_n 0, 1) := by decide +kernel
theorem dX12_findWay_22 : decode cX12_findWay 22 = .ok (.getfield 58, 3) := by decide +kernel
theorem dX12_findWay_25 : decode cX12_findWay 25 = .ok (.imul, 1) := by decide +kernel
theorem dX12_findWay_26 : decode cX12_findWay 26 = .ok (.iload_n 1, 1) := by decide +kernel
theorem dX12_findWay_27 : decode cX12_findWay 27 = .ok (.iadd, 1) := by decide +kernel
theorem dX12_findWay_28 : decode cX12_findWay 28 = .ok (.iaload, 1) := by decide +kernel
theorem dX12_findWay_29 : decode cX12_findWay 29 = .ok (.iastore, 1) := by decide +kernel
theorem dX12_findWay_30 : decode cX12_findWay 30 = .ok (.iinc 1 1, 3) := by decide +kernel
theorem dX12_findWay_33 : decode cX12_findWay 33 = .ok (.goto (-31), 3) := by decide +kernel
theorem dX12_findWay_36 : decode cX12_findWay 36 = .ok (.aload_n 0, 1) := by decide +kernel
theorem dX12_findWay_37 : decode cX12_findWay 37 = .ok (.bipush 100, 2) := by decide +kernel
theorem dX12_findWay_39 : decode cX12_findWay 39 = .ok (.putfield 165, 3) := by decide +kernel
theorem dX12_findWay_42 : decode cX12_findWay 42 = .ok (.aload_n 0, 1) := by decide +kernel
theorem dX12_findWay_43 : decode cX12_findWay 43 = .ok (.iconst 0, 1) := by decide +kernel
theorem dX12_findWay_44 : decode cX12_findWay 44 = .ok (.putfield 168, 3) := by decide +kernel
theorem dX12_findWay_47 : decode cX12_findWay 47 = .ok (.aload_n 0, 1) := by decide +kernel
theorem dX12_findWay_48 : decode cX12_findWay 48 = .ok (.invokevirtual 154, 3) := by decide +kernel
theorem dX12_findWay_51 : decode cX12_findWay 51 = .ok (.istore_n 1, 1) := by decide +kernel
theorem dX12_findWay_52 : decode cX12_findWay 52 = .ok (.aload_n 0, 1) := by decide +kernel
theorem dX12_findWay_53 : decode cX12_findWay 53 = .ok (.iload_n 1, 1) := by decide +kernel
theorem dX12_findWay_54 : decode cX12_findWay 54 = .ok (.iconst 0, 1) := by decide +kernel
theorem dX12_findWay_55 : decode cX12_findWay 55 = .ok (.iconst 0, 1) := by decide +kernel
theorem dX12_findWay_56 : decode cX12_findWay 56 = .ok (.iconst 0, 1) := by decide +kernel
theorem dX12_findWay_57 : decode cX12_findWay 57 = .ok (.invokevirtual 171, 3) := by decide +kernel
theorem dX12_findWay_60 : decode cX12_findWay 60 = .ok (.iload_n 1, 1) := by decide +kernel
theorem dX12_findWay_61 : decode cX12_findWay 61 = .ok (.invokestatic 158, 3) := by decide +kernel
theorem dX12_findWay_64 : decode cX12_findWay 64 = .ok (.ireturn, 1) := by decide +kernel
theorem dX12_way_0 : decode cX12_way 0 = .ok (.aload_n 0, 1) := by decide +kernel
theorem dX12_way_1 : decode cX12_way 1 = .ok (.getfield 58, 3) := by decide +kernel
theorem dX12_way_4 : decode cX12_way 4 = .ok (.bipush (-5), 2) := by decide +kernel
theorem dX12_way_6 : decode cX12_way 6 = .ok (.if_icmp .ne 6, 3) := by decide +kernel
theorem dX12_way_9 : decode cX12_way 9 = .ok (.bipush (-3), 2) := by decide +kernel
theorem dX12_way_11 : decode cX12_way 11 = .ok (.ireturn, 1) := by decide +kernel
theorem dX12_way_12 : decode cX12_way 12 = .ok (.aload_n 0, 1) := by decide +kernel
theorem dX12_way_13 : decode cX12_way 13 = .ok (.invokevirtual 175, 3) := by decide +kernel
theorem dX12_way_16 : decode cX12_way 16 = .ok (.istore_n 2, 1) := by decide +kernel
theorem dX12_way_17 : decode cX12_way 17 = .ok (.iload_n 1, 1) := by decide +kernel
theorem dX12_way_18 : decode cX12_way 18 = .ok (.iconst 0, 1) := by decide +kernel
theorem dX12_way_19 : decode cX12_way 19 = .ok (.iload_n 2, 1) := by decide +kernel
theorem dX12_way_20 : decode cX12_way 20 = .ok (.iconst 1, 1) := by decide +kernel
theorem dX12_way_21 : decode cX12_way 21 = .ok (.isub, 1) := by decide +kernel
theorem dX12_way_22 : decode cX12_way 22 = .ok (.invokestatic 96, 3) := by decide +kernel
theorem dX12_way_25 : decode cX12_way 25 = .ok (.ifCond .eq 8, 3) := by decide +kernel
theorem dX12_way_28 : decode cX12_way 28 = .ok (.bipush (-5), 2) := by decide +kernel
theorem dX12_way_30 : decode cX12_way 30 = .ok (.goto 9, 3) := by decide +kernel
theorem dX12_way_33 : decode cX12_way 33 = .ok (.aload_n 0, 1) := by decide +kernel
theorem dX12_way_34 : decode cX12_way 34 = .ok (.getfield 80, 3) := by decide +kernel
theorem dX12_way_37 : decode cX12_way 37 = .ok (.iload_n 1, 1) := by decide +kernel
theorem dX12_way_38 : decode cX12_way 38 = .ok (.iaload, 1) := by decide +kernel
theorem dX12_way_39 : decode cX12_way 39 = .ok (.ireturn, 1) := by decide +kernel
theorem dX12_broken_0 : decode cX12_broken 0 = .ok (.aload_n 0, 1) := by decide +kernel
theorem dX12_broken_1 : decode cX12_broken 1 = .ok (.getfield 58, 3) := by decide +kernel
theorem dX12_broken_4 : decode cX12_broken 4 = .ok (.bipush (-5), 2) := by decide +kernel
theorem dX12_broken_6 : decode cX12_broken 6 = .ok (.if_icmp .ne 6, 3) := by decide +kernel
theorem dX12_broken_9 : decode cX12_broken 9 = .ok (.bipush (-3), 2) := by decide +kernel
theorem dX12_broken_11 : decode cX12_broken 11 = .ok (.ireturn, 1) := by decide +kernel
theorem dX12_broken_12 : decode cX12_broken 12 = .ok (.aload_n 0, 1) := by decide +kernel
theorem dX12_broken_13 : decode cX12_broken 13 = .ok (.invokevirtual 175, 3) := by decide +kernel
theorem dX12_broken_16 : decode cX12_broken 16 = .ok (.istore_n 2, 1) := by decide +kernel
theorem dX12_broken_17 : decode cX12_broken 17 = .ok (.iload_n 1, 1) := by decide +kernel
theorem dX12_broken_18 : decode cX12_broken 18 = .ok (.iconst 0, 1) := by decide +kernel
theorem dX12_broken_19 : decode cX12_broken 19 = .ok (.iload_n 2, 1) := by decide +kernel
theorem dX12_broken_20 : decode cX12_broken 20 = .ok (.iconst 1, 1) := by decide +kernel
theorem dX12_broken_21 : decode cX12_broken 21 = .ok (.isub, 1) := by decide +kernel
theorem dX12_broken_22 : decode cX12_broken 22 = .ok (.invokestatic 96, 3) := by decide +kernel
theorem dX12_broken_25 : decode cX12_broken 25 = .ok (.ifCond .eq 8, 3) := by decide +kernel
theorem dX12_broken_28 : decode cX12_broken 28 = .ok (.bipush (-5), 2) := by decide +kernel
theorem dX12_broken_30 : decode cX12_broken 30 = .ok (.goto 9, 3) := by decide +kernel
theorem dX12_broken_33 : decode cX12_broken 33 = .ok (.aload_n 0, 1) := by decide +kernel
theorem dX12_broken_34 : decode cX12_broken 34 = .ok (.getfield 83, 3) := by decide +kernel
theorem dX12_broken_37 : decode cX12_broken 37 = .ok (.iload_n 1, 1) := by decide +kernel
theorem dX12_broken_38 : decode cX12_broken 38 = .ok (.iaload, 1) := by decide +kernel
theorem dX12_broken_39 : decode cX12_broken 39 = .ok (.ireturn, 1) := by decide +kernel
theorem dX12_clash_0 : decode cX12_clash 0 = .ok (.aload_n 0, 1) := by decide +kernel
theorem dX12_clash_1 : decode cX12_clash 1 = .ok (.getfield 93, 3) := by decide +kernel
theorem dX12_clash_4 : decode cX12_clash 4 = .ok (.ifCond .ne 6, 3) := by decide +kernel
theorem dX12_clash_7 : decode cX12_clash 7 = .ok (.bipush (-3), 2) := by decide +kernel
theorem dX12_clash_9 : decode cX12_clash 9 = .ok (.ireturn, 1) := by decide +kernel
theorem dX12_clash_10 : decode cX12_clash 10 = .ok (.iconst 0, 1) := by decide +kernel
theorem dX12_clash_11 : decode cX12_clash 11 = .ok (.istore_n 2, 1) := by decide +kernel
theorem dX12_clash_12 : decode cX12_clash 12 = .ok (.iload_n 2, 1) := by decide +kernel
theorem dX12_clash_13 : decode cX12_clash 13 = .ok (.sipush 4096, 3) := by decide +kernel
theorem dX12_clash_16 : decode cX12_clash 16 = .ok (.if_icmp .ge 16, 3) := by decide +kernel
theorem dX12_clash_19 : decode cX12_clash 19 = .ok (.aload_n 0, 1) := by decide +kernel
theorem dX12_clash_20 : decode cX12_clash 20 = .ok (.getfield 89, 3) := by decide +kernel
theorem dX12_clash_23 : decode cX12_clash 23 = .ok (.iload_n 2, 1) := by decide +kernel
theorem dX12_clash_24 : decode cX12_clash 24 = .ok (.iconst 0, 1) := by decide +kernel
theorem dX12_clash_25 : decode cX12_clash 25 = .ok (.bastore, 1) := by decide +kernel
theorem dX12_clash_26 : decode cX12_clash 26 = .ok (.iinc 2 1, 3) := by decide +kernel
theorem dX12_clash_29 : decode cX12_clash 29 = .ok (.goto (-17), 3) := by decide +kernel
theorem dX12_clash_32 : decode cX12_clash 32 = .ok (.iconst 1, 1) := by decide +kernel
theorem dX12_clash_33 : decode cX12_clash 33 = .ok (.istore_n 2, 1) := by decide +kernel
theorem dX12_clash_34 : decode cX12_clash 34 = .ok (.aload_n 0, 1) := by decide +kernel
theorem dX12_clash_35 : decode cX12_clash 35 = .ok (.invokevirtual 127, 3) := by decide +kernel
theorem dX12_clash_38 : decode cX12_clash 38 = .ok (.iload_n 2, 1) := by decide +kernel
theorem dX12_clash_39 : decode cX12_clash 39 = .ok (.ifCond .eq 36, 3) := by decide +kernel
theorem dX12_clash_42 : decode cX12_clash 42 = .ok (.aload_n 0, 1) := by decide +kernel
theorem dX12_clash_43 : decode cX12_clash 43 = .ok (.aload_n 0, 1) := by decide +kernel
theorem dX12_clash_44 : decode cX12_clash 44 = .ok (.getfield 68, 3) := by decide +kernel
theorem dX12_clash_47 : decode cX12_clash 47 = .ok (.invokevirtual 130, 3) := by decide +kernel
theorem dX12_clash_50 : decode cX12_clash 50 = .ok (.ifCond .eq 17, 3) := by decide +kernel
theorem dX12_clash_53 : decode cX12_clash 53 = .ok (.aload_n 0, 1) := by decide +kernel
theorem dX12_clash_54 : decode cX12_clash 54 = .ok (.getfield 89, 3) := by decide +kernel
theorem dX12_clash_57 : decode cX12_clash 57 = .ok (.aload_n 0, 1) := by decide +kernel
theorem dX12_clash_58 : decode cX12_clash 58 = .ok (.aload_n 0, 1) := by decide +kernel
theorem dX12_clash_59 : decode cX12_clash 59 = .ok (.getfield 68, 3) := by decide +kernel
theorem dX12_clash_62 : decode cX12_clash 62 = .ok (.invokevirtual 134, 3) := by decide +kernel
theorem dX12_clash_65 : decode cX12_clash 65 = .ok (.iconst 1, 1) := by decide +kernel
theorem dX12_clash_66 : decode cX12_clash 66 = .ok (.bastore, 1) := by decide +kernel
theorem dX12_clash_67 : decode cX12_clash 67 = .ok (.aload_n 0, 1) := by decide +kernel
theorem dX12_clash_68 : decode cX12_clash 68 = .ok (.invokevirtual 144, 3) := by decide +kernel
theorem dX12_clash_71 : decode cX12_clash 71 = .ok (.istore_n 2, 1) := by decide +kernel
theorem dX12_clash_72 : decode cX12_clash 72 = .ok (.goto (-34), 3) := by decide +kernel
theorem dX12_clash_75 : decode cX12_clash 75 = .ok (.iconst (-1), 1) := by decide +kernel
theorem dX12_clash_76 : decode cX12_clash 76 = .ok (.istore_n 3, 1) := by decide +kernel
theorem dX12_clash_77 : decode cX12_clash 77 = .ok (.iconst 0, 1) := by decide +kernel
theorem dX12_clash_78 : decode cX12_clash 78 = .ok (.istore 4, 2) := by decide +kernel
theorem dX12_clash_80 : decode cX12_clash 80 = .ok (.iload 4, 2) := by decide +kernel
theorem dX12_clash_82 : decode cX12_clash 82 = .ok (.aload_n 0, 1) := by decide +kernel
theorem dX12_clash_83 : decode cX12_clash 83 = .ok (.getfield 114, 3) := by decide +kernel
theorem dX12_clash_86 : decode cX12_clash 86 = .ok (.if_icmp .gt 20, 3) := by decide +kernel
theorem dX12_clash_89 : decode cX12_clash 89 = .ok (.iload_n 3, 1) := by decide +kernel
theorem dX12_clash_90 : decode cX12_clash 90 = .ok (.ifCond .ge 16, 3) := by decide +kernel
theorem dX12_clash_93 : decode cX12_clash 93 = .ok (.aload_n 0, 1) := by decide +kernel
theorem dX12_clash_94 : decode cX12_clash 94 = .ok (.iload 4, 2) := by decide +kernel
theorem dX12_clash_96 : decode cX12_clash 96 = .ok (.invokevirtual 178, 3) := by decide +kernel
theorem dX12_clash_99 : decode cX12_clash 99 = .ok (.istore_n 3, 1) := by decide +kernel
theorem dX12_clash_100 : decode cX12_clash 100 = .ok (.iinc 4 1, 3) := by decide +kernel
theorem dX12_clash_103 : decode cX12_clash 103 = .ok (.goto (-23), 3) := by decide +kernel
theorem dX12_clash_106 : decode cX12_clash 106 = .ok (.iload_n 3, 1) := by decide +kernel
theorem dX12_clash_107 : decode cX12_clash 107 = .ok (.ifCond .ge 6, 3) := by decide +kernel
theorem dX12_clash_110 : decode cX12_clash 110 = .ok (.bipush (-5), 2) := by decide +kernel
theorem dX12_clash_112 : decode cX12_clash 112 = .ok (.ireturn, 1) := by decide +kernel
theorem dX12_clash_113 : decode cX12_clash 113 = .ok (.iload_n 1, 1) := by decide +kernel
theorem dX12_clash_114 : decode cX12_clash 114 = .ok (.iconst (-1), 1) := by decide +kernel
theorem dX12_clash_115 : decode cX12_clash 115 = .ok (.if_icmp .ne 8, 3) := by decide +kernel
theorem dX12_clash_118 : decode cX12_clash 118 = .ok (.iload_n 3, 1) := by decide +kernel
theorem dX12_clash_119 : decode cX12_clash 119 = .ok (.invokestatic 158, 3) := by decide +kernel
theorem dX12_clash_122 : decode cX12_clash 122 = .ok (.ireturn, 1) := by decide +kernel
theorem dX12_clash_123 : decode cX12_clash 123 = .ok (.iconst 0, 1) := by decide +kernel
theorem dX12_clash_124 : decode cX12_clash 124 = .ok (.istore 4, 2) := by decide +kernel
theorem dX12_clash_126 : decode cX12_clash 126 = .ok (.iconst 0, 1) := by decide +kernel
theorem dX12_clash_127 : decode cX12_clash 127 = .ok (.istore 5, 2) := by decide +kernel
theorem dX12_clash_129 : decode cX12_clash 129 = .ok (.iload 5, 2) := by decide +kernel
theorem dX12_clash_131 : decode cX12_clash 131 = .ok (.bipush 12, 2) := by decide +kernel
theorem dX12_clash_133 : decode cX12_clash 133 = .ok (.if_icmp .ge 31, 3) := by decide +kernel
theorem dX12_clash_136 : decode cX12_clash 136 = .ok (.iload_n 3, 1) := by decide +kernel
theorem dX12_clash_137 : decode cX12_clash 137 = .ok (.iload 5, 2) := by decide +kernel
theorem dX12_clash_139 : decode cX12_clash 139 = .ok (.ishr, 1) := by decide +kernel
theorem dX12_clash_140 : decode cX12_clash 140 = .ok (.iconst 1, 1) := by decide +kernel
theorem dX12_clash_141 : decode cX12_clash 141 = .ok (.iand, 1) := by decide +kernel
theorem dX12_clash_142 : decode cX12_clash 142 = .ok (.iconst 1, 1) := by decide +kernel
theorem dX12_clash_143 : decode cX12_clash 143 = .ok (.if_icmp .ne 15, 3) := by decide +kernel
theorem dX12_clash_146 : decode cX12_clash 146 = .ok (.iload 4, 2) := by decide +kernel
theorem dX12_clash_148 : decode cX12_clash 148 = .ok (.iload_n 1, 1) := by decide +kernel
theorem dX12_clash_149 : decode cX12_clash 149 = .ok (.if_icmp .ne 6, 3) := by decide +kernel
theorem dX12_clash_152 : decode cX12_clash 152 = .ok (.iload 5, 2) := by decide +kernel
theorem dX12_clash_154 : decode cX12_clash 154 = .ok (.ireturn, 1) := by decide +kernel
theorem dX12_clash_155 : decode cX12_clash 155 = .ok (.iinc 4 1, 3) := by decide +kernel
theorem dX12_clash_158 : decode cX12_clash 158 = .ok (.iinc 5 1, 3) := by decide +kernel
theorem dX12_clash_161 : decode cX12_clash 161 = .ok (.goto (-32), 3) := by decide +kernel
theorem dX12_clash_164 : decode cX12_clash 164 = .ok (.bipush (-5), 2) := by decide +kernel
theorem dX12_clash_166 : decode cX12_clash 166 = .ok (.ireturn, 1) := by decide +kernel
theorem dX12_leastClash_0 : decode cX12_leastClash 0 = .ok (.iconst (-1), 1) := by decide +kernel
theorem dX12_leastClash_1 : decode cX12_leastClash 1 = .ok (.istore_n 2, 1) := by decide +kernel
theorem dX12_leastClash_2 : decode cX12_leastClash 2 = .ok (.iconst 0, 1) := by decide +kernel
theorem dX12_leastClash_3 : decode cX12_leastClash 3 = .ok (.istore_n 3, 1) := by decide +kernel
theorem dX12_leastClash_4 : decode cX12_leastClash 4 = .ok (.iload_n 3, 1) := by decide +kernel
theorem dX12_leastClash_5 : decode cX12_leastClash 5 = .ok (.iconst 1, 1) := by decide +kernel
theorem dX12_leastClash_6 : decode cX12_leastClash 6 = .ok (.aload_n 0, 1) := by decide +kernel
theorem dX12_leastClash_7 : decode cX12_leastClash 7 = .ok (.getfield 114, 3) := by decide +kernel
theorem dX12_leastClash_10 : decode cX12_leastClash 10 = .ok (.ishl, 1) := by decide +kernel
theorem dX12_leastClash_11 : decode cX12_leastClash 11 = .ok (.if_icmp .ge 39, 3) := by decide +kernel
theorem dX12_leastClash_14 : decode cX12_leastClash 14 = .ok (.iload_n 3, 1) := by decide +kernel
theorem dX12_leastClash_15 : decode cX12_leastClash 15 = .ok (.invokestatic 158, 3) := by decide +kernel
theorem dX12_leastClash_18 : decode cX12_leastClash 18 = .ok (.iload_n 1, 1) := by decide +kernel
theorem dX12_leastClash_19 : decode cX12_leastClash 19 = .ok (.if_icmp .ne 25, 3) := by decide +kernel
theorem dX12_leastClash_22 : decode cX12_leastClash 22 = .ok (.aload_n 0, 1) := by decide +kernel
theorem dX12_leastClash_23 : decode cX12_leastClash 23 = .ok (.iload_n 3, 1) := by decide +kernel
theorem dX12_leastClash_24 : decode cX12_leastClash 24 = .ok (.invokevirtual 181, 3) := by decide +kernel
theorem dX12_leastClash_27 : decode cX12_leastClash 27 = .ok (.ifCond .eq 17, 3) := by decide +kernel
theorem dX12_leastClash_30 : decode cX12_leastClash 30 = .ok (.iload_n 2, 1) := by decide +kernel
theorem dX12_leastClash_31 : decode cX12_leastClash 31 = .ok (.ifCond .lt 11, 3) := by decide +kernel
theorem dX12_leastClash_34 : decode cX12_leastClash 34 = .ok (.iload_n 3, 1) := by decide +kernel
theorem dX12_leastClash_35 : decode cX12_leastClash 35 = .ok (.iload_n 2, 1) := by decide +kernel
theorem dX12_leastClash_36 : decode cX12_leastClash 36 = .ok (.invokestatic 184, 3) := by decide +kernel
theorem dX12_leastClash_39 : decode cX12_leastClash 39 = .ok (.ifCond .eq 5, 3) := by decide +kernel
theorem dX12_leastClash_42 : decode cX12_leastClash 42 = .ok (.iload_n 3, 1) := by decide +kernel
theorem dX12_leastClash_43 : decode cX12_leastClash 43 = .ok (.istore_n 2, 1) := by decide +kernel
theorem dX12_leastClash_44 : decode cX12_leastClash 44 = .ok (.iinc 3 1, 3) := by decide +kernel
theorem dX12_leastClash_47 : decode cX12_leastClash 47 = .ok (.goto (-43), 3) := by decide +kernel
theorem dX12_leastClash_50 : decode cX12_leastClash 50 = .ok (.iload_n 2, 1) := by decide +kernel
theorem dX12_leastClash_51 : decode cX12_leastClash 51 = .ok (.ireturn, 1) := by decide +kernel
theorem dX12_isClash_0 : decode cX12_isClash 0 = .ok (.iconst 0, 1) := by decide +kernel
theorem dX12_isClash_1 : decode cX12_isClash 1 = .ok (.istore_n 2, 1) := by decide +kernel
theorem dX12_isClash_2 : decode cX12_isClash 2 = .ok (.iload_n 2, 1) := by decide +kernel
theorem dX12_isClash_3 : decode cX12_isClash 3 = .ok (.sipush 4096, 3) := by decide +kernel
theorem dX12_isClash_6 : decode cX12_isClash 6 = .ok (.if_icmp .ge 26, 3) := by decide +kernel
theorem dX12_isClash_9 : decode cX12_isClash 9 = .ok (.aload_n 0, 1) := by decide +kernel
theorem dX12_isClash_10 : decode cX12_isClash 10 = .ok (.getfield 89, 3) := by decide +kernel
theorem dX12_isClash_13 : decode cX12_isClash 13 = .ok (.iload_n 2, 1) := by decide +kernel
theorem dX12_isClash_14 : decode cX12_isClash 14 = .ok (.baload, 1) := by decide +kernel
theorem dX12_isClash_15 : decode cX12_isClash 15 = .ok (.ifCond .eq 11, 3) := by decide +kernel
theorem dX12_isClash_18 : decode cX12_isClash 18 = .ok (.iload_n 2, 1) := by decide +kernel
theorem dX12_isClash_19 : decode cX12_isClash 19 = .ok (.iload_n 1, 1) := by decide +kernel
theorem dX12_isClash_20 : decode cX12_isClash 20 = .ok (.iand, 1) := by decide +kernel
theorem dX12_isClash_21 : decode cX12_isClash 21 = .ok (.ifCond .ne 5, 3) := by decide +kernel
theorem dX12_isClash_24 : decode cX12_isClash 24 = .ok (.iconst 0, 1) := by decide +kernel
theorem dX12_isClash_25 : decode cX12_isClash 25 = .ok (.ireturn, 1) := by decide +kernel
theorem dX12_isClash_26 : decode cX12_isClash 26 = .ok (.iinc 2 1, 3) := by decide +kernel
theorem dX12_isClash_29 : decode cX12_isClash 29 = .ok (.goto (-27), 3) := by decide +kernel
theorem dX12_isClash_32 : decode cX12_isClash 32 = .ok (.iconst 1, 1) := by decide +kernel
theorem dX12_isClash_33 : decode cX12_isClash 33 = .ok (.ireturn, 1) := by decide +kernel
theorem dX12_isBefore_0 : decode cX12_isBefore 0 = .ok (.iload_n 0, 1) := by decide +kernel
theorem dX12_isBefore_1 : decode cX12_isBefore 1 = .ok (.iload_n 1, 1) := by decide +kernel
theorem dX12_isBefore_2 : decode cX12_isBefore 2 = .ok (.ixor, 1) := by decide +kernel
theorem dX12_isBefore_3 : decode cX12_isBefore 3 = .ok (.istore_n 2, 1) := by decide +kernel
theorem dX12_isBefore_4 : decode cX12_isBefore 4 = .ok (.iload_n 0, 1) := by decide +kernel
theorem dX12_isBefore_5 : decode cX12_isBefore 5 = .ok (.iload_n 2, 1) := by decide +kernel
theorem dX12_isBefore_6 : decode cX12_isBefore 6 = .ok (.iand, 1) := by decide +kernel
theorem dX12_isBefore_7 : decode cX12_isBefore 7 = .ok (.iload_n 2, 1) := by decide +kernel
theorem dX12_isBefore_8 : decode cX12_isBefore 8 = .ok (.ineg, 1) := by decide +kernel
theorem dX12_isBefore_9 : decode cX12_isBefore 9 = .ok (.iand, 1) := by decide +kernel
theorem dX12_isBefore_10 : decode cX12_isBefore 10 = .ok (.ifCond .eq 7, 3) := by decide +kernel
theorem dX12_isBefore_13 : decode cX12_isBefore 13 = .ok (.iconst 1, 1) := by decide +kernel
theorem dX12_isBefore_14 : decode cX12_isBefore 14 = .ok (.goto 4, 3) := by decide +kernel
theorem dX12_isBefore_17 : decode cX12_isBefore 17 = .ok (.iconst 0, 1) := by decide +kernel
theorem dX12_isBefore_18 : decode cX12_isBefore 18 = .ok (.ireturn, 1) := by decide +kernel
theorem dJ6_compare_7cf53_0 : decode cJ6_compare_7cf53 0 = .ok (.iload_n 0, 1) := by decide +kernel
theorem dJ6_compare_7cf53_1 : decode cJ6_compare_7cf53 1 = .ok (.iload_n 1, 1) := by decide +kernel
theorem dJ6_compare_7cf53_2 : decode cJ6_compare_7cf53 2 = .ok (.if_icmp .ge 7, 3) := by decide +kernel
theorem dJ6_compare_7cf53_5 : decode cJ6_compare_7cf53 5 = .ok (.iconst (-1), 1) := by decide +kernel
theorem dJ6_compare_7cf53_6 : decode cJ6_compare_7cf53 6 = .ok (.goto 13, 3) := by decide +kernel
theorem dJ6_compare_7cf53_9 : decode cJ6_compare_7cf53 9 = .ok (.iload_n 0, 1) := by decide +kernel
theorem dJ6_compare_7cf53_10 : decode cJ6_compare_7cf53 10 = .ok (.iload_n 1, 1) := by decide +kernel
theorem dJ6_compare_7cf53_11 : decode cJ6_compare_7cf53 11 = .ok (.if_icmp .ne 7, 3) := by decide +kernel
theorem dJ6_compare_7cf53_14 : decode cJ6_compare_7cf53 14 = .ok (.iconst 0, 1) := by decide +kernel
theorem dJ6_compare_7cf53_15 : decode cJ6_compare_7cf53 15 = .ok (.goto 4, 3) := by decide +kernel
theorem dJ6_compare_7cf53_18 : decode cJ6_compare_7cf53 18 = .ok (.iconst 1, 1) := by decide +kernel
theorem dJ6_compare_7cf53_19 : decode cJ6_compare_7cf53 19 = .ok (.ireturn, 1) := by decide +kernel
theorem dJ6_bitCount_0f7a4_0 : decode cJ6_bitCount_0f7a4 0 = .ok (.iload_n 0, 1) := by decide +kernel
theorem dJ6_bitCount_0f7a4_1 : decode cJ6_bitCount_0f7a4 1 = .ok (.iload_n 0, 1) := by decide +kernel
theorem dJ6_bitCount_0f7a4_2 : decode cJ6_bitCount_0f7a4 2 = .ok (.iconst 1, 1) := by decide +kernel
theorem dJ6_bitCount_0f7a4_3 : decode cJ6_bitCount_0f7a4 3 = .ok (.iushr, 1) := by decide +kernel
theorem dJ6_bitCount_0f7a4_4 : decode cJ6_bitCount_0f7a4 4 = .ok (.ldc_w 265, 3) := by decide +kernel
theorem dJ6_bitCount_0f7a4_7 : decode cJ6_bitCount_0f7a4 7 = .ok (.iand, 1) := by decide +kernel
theorem dJ6_bitCount_0f7a4_8 : decode cJ6_bitCount_0f7a4 8 = .ok (.isub, 1) := by decide +kernel
theorem dJ6_bitCount_0f7a4_9 : decode cJ6_bitCount_0f7a4 9 = .ok (.istore_n 0, 1) := by decide +kernel
theorem dJ6_bitCount_0f7a4_10 : decode cJ6_bitCount_0f7a4 10 = .ok (.iload_n 0, 1) := by decide +kernel
theorem dJ6_bitCount_0f7a4_11 : decode cJ6_bitCount_0f7a4 11 = .ok (.ldc_w 266, 3) := by decide +kernel
theorem dJ6_bitCount_0f7a4_14 : decode cJ6_bitCount_0f7a4 14 = .ok (.iand, 1) := by decide +kernel
theorem dJ6_bitCount_0f7a4_15 : decode cJ6_bitCount_0f7a4 15 = .ok (.iload_n 0, 1) := by decide +kernel
theorem dJ6_bitCount_0f7a4_16 : decode cJ6_bitCount_0f7a4 16 = .ok (.iconst 2, 1) := by decide +kernel
theorem dJ6_bitCount_0f7a4_17 : decode cJ6_bitCount_0f7a4 17 = .ok (.iushr, 1) := by decide +kernel
theorem dJ6_bitCount_0f7a4_18 : decode cJ6_bitCount_0f7a4 18 = .ok (.ldc_w 266, 3) := by decide +kernel
theorem dJ6_bitCount_0f7a4_21 : decode cJ6_bitCount_0f7a4 21 = .ok (.iand, 1) := by decide +kernel
theorem dJ6_bitCount_0f7a4_22 : decode cJ6_bitCount_0f7a4 22 = .ok (.iadd, 1) := by decide +kernel
theorem dJ6_bitCount_0f7a4_23 : decode cJ6_bitCount_0f7a4 23 = .ok (.istore_n 0, 1) := by decide +kernel
theorem dJ6_bitCount_0f7a4_24 : decode cJ6_bitCount_0f7a4 24 = .ok (.iload_n 0, 1) := by decide +kernel
theorem dJ6_bitCount_0f7a4_25 : decode cJ6_bitCount_0f7a4 25 = .ok (.iload_n 0, 1) := by decide +kernel
theorem dJ6_bitCount_0f7a4_26 : decode cJ6_bitCount_0f7a4 26 = .ok (.iconst 4, 1) := by decide +kernel
theorem dJ6_bitCount_0f7a4_27 : decode cJ6_bitCount_0f7a4 27 = .ok (.iushr, 1) := by decide +kernel
theorem dJ6_bitCount_0f7a4_28 : decode cJ6_bitCount_0f7a4 28 = .ok (.iadd, 1) := by decide +kernel
theorem dJ6_bitCount_0f7a4_29 : decode cJ6_bitCount_0f7a4 29 = .ok (.ldc_w 267, 3) := by decide +kernel
theorem dJ6_bitCount_0f7a4_32 : decode cJ6_bitCount_0f7a4 32 = .ok (.iand, 1) := by decide +kernel
theorem dJ6_bitCount_0f7a4_33 : decode cJ6_bitCount_0f7a4 33 = .ok (.istore_n 0, 1) := by decide +kernel
theorem dJ6_bitCount_0f7a4_34 : decode cJ6_bitCount_0f7a4 34 = .ok (.iload_n 0, 1) := by decide +kernel
theorem dJ6_bitCount_0f7a4_35 : decode cJ6_bitCount_0f7a4 35 = .ok (.iload_n 0, 1) := by decide +kernel
theorem dJ6_bitCount_0f7a4_36 : decode cJ6_bitCount_0f7a4 36 = .ok (.bipush 8, 2) := by decide +kernel
theorem dJ6_bitCount_0f7a4_38 : decode cJ6_bitCount_0f7a4 38 = .ok (.iushr, 1) := by decide +kernel
theorem dJ6_bitCount_0f7a4_39 : decode cJ6_bitCount_0f7a4 39 = .ok (.iadd, 1) := by decide +kernel
theorem dJ6_bitCount_0f7a4_40 : decode cJ6_bitCount_0f7a4 40 = .ok (.istore_n 0, 1) := by decide +kernel
theorem dJ6_bitCount_0f7a4_41 : decode cJ6_bitCount_0f7a4 41 = .ok (.iload_n 0, 1) := by decide +kernel
theorem dJ6_bitCount_0f7a4_42 : decode cJ6_bitCount_0f7a4 42 = .ok (.iload_n 0, 1) := by decide +kernel
theorem dJ6_bitCount_0f7a4_43 : decode cJ6_bitCount_0f7a4 43 = .ok (.bipush 16, 2) := by decide +kernel
theorem dJ6_bitCount_0f7a4_45 : decode cJ6_bitCount_0f7a4 45 = .ok (.iushr, 1) := by decide +kernel
theorem dJ6_bitCount_0f7a4_46 : decode cJ6_bitCount_0f7a4 46 = .ok (.iadd, 1) := by decide +kernel
theorem dJ6_bitCount_0f7a4_47 : decode cJ6_bitCount_0f7a4 47 = .ok (.istore_n 0, 1) := by decide +kernel
theorem dJ6_bitCount_0f7a4_48 : decode cJ6_bitCount_0f7a4 48 = .ok (.iload_n 0, 1) := by decide +kernel
theorem dJ6_bitCount_0f7a4_49 : decode cJ6_bitCount_0f7a4 49 = .ok (.bipush 63, 2) := by decide +kernel
theorem dJ6_bitCount_0f7a4_51 : decode cJ6_bitCount_0f7a4 51 = .ok (.iand, 1) := by decide +kernel
theorem dJ6_bitCount_0f7a4_52 : decode cJ6_bitCount_0f7a4 52 = .ok (.ireturn, 1) := by decide +kernel
theorem dJ9_abs_0f7a4_0 : decode cJ9_abs_0f7a4 0 = .ok (.iload_n 0, 1) := by decide +kernel
theorem dJ9_abs_0f7a4_1 : decode cJ9_abs_0f7a4 1 = .ok (.ifCond .ge 8, 3) := by decide +kernel
theorem dJ9_abs_0f7a4_4 : decode cJ9_abs_0f7a4 4 = .ok (.iload_n 0, 1) := by decide +kernel
theorem dJ9_abs_0f7a4_5 : decode cJ9_abs_0f7a4 5 = .ok (.ineg, 1) := by decide +kernel
theorem dJ9_abs_0f7a4_6 : decode cJ9_abs_0f7a4 6 = .ok (.goto 4, 3) := by decide +kernel
theorem dJ9_abs_0f7a4_9 : decode cJ9_abs_0f7a4 9 = .ok (.iload_n 0, 1) := by decide +kernel
theorem dJ9_abs_0f7a4_10 : decode cJ9_abs_0f7a4 10 = .ok (.ireturn, 1) := by decide +kernel
theorem dJ9_max_7cf53_0 : decode cJ9_max_7cf53 0 = .ok (.iload_n 0, 1) := by decide +kernel
theorem dJ9_max_7cf53_1 : decode cJ9_max_7cf53 1 = .ok (.iload_n 1, 1) := by decide +kernel
theorem dJ9_max_7cf53_2 : decode cJ9_max_7cf53 2 = .ok (.if_icmp .lt 7, 3) := by decide +kernel
theorem dJ9_max_7cf53_5 : decode cJ9_max_7cf53 5 = .ok (.iload_n 0, 1) := by decide +kernel
theorem dJ9_max_7cf53_6 : decode cJ9_max_7cf53 6 = .ok (.goto 4, 3) := by decide +kernel
theorem dJ9_max_7cf53_9 : decode cJ9_max_7cf53 9 = .ok (.iload_n 1, 1) := by decide +kernel
theorem dJ9_max_7cf53_10 : decode cJ9_max_7cf53 10 = .ok (.ireturn, 1) := by decide +kernel
theorem dJ9_min_7cf53_0 : decode cJ9_min_7cf53 0 = .ok (.iload_n 0, 1) := by decide +kernel
theorem dJ9_min_7cf53_1 : decode cJ9_min_7cf53 1 = .ok (.iload_n 1, 1) := by decide +kernel
theorem dJ9_min_7cf53_2 : decode cJ9_min_7cf53 2 = .ok (.if_icmp .gt 7, 3) := by decide +kernel
theorem dJ9_min_7cf53_5 : decode cJ9_min_7cf53 5 = .ok (.iload_n 0, 1) := by decide +kernel
theorem dJ9_min_7cf53_6 : decode cJ9_min_7cf53 6 = .ok (.goto 4, 3) := by decide +kernel
theorem dJ9_min_7cf53_9 : decode cJ9_min_7cf53 9 = .ok (.iload_n 1, 1) := by decide +kernel
theorem dJ9_min_7cf53_10 : decode cJ9_min_7cf53 10 = .ok (.ireturn, 1) := by decide +kernel
theorem dL_law_0 : decode cL_law 0 = .ok (.new 7, 3) := by decide +kernel
theorem dL_law_3 : decode cL_law 3 = .ok (.dup, 1) := by decide +kernel
theorem dL_law_4 : decode cL_law 4 = .ok (.invokespecial 9, 3) := by decide +kernel
theorem dL_law_7 : decode cL_law 7 = .ok (.astore_n 1, 1) := by decide +kernel
theorem dL_law_8 : decode cL_law 8 = .ok (.new 10, 3) := by decide +kernel
theorem dL_law_11 : decode cL_law 11 = .ok (.dup, 1) := by decide +kernel
theorem dL_law_12 : decode cL_law 12 = .ok (.invokespecial 12, 3) := by decide +kernel
theorem dL_law_15 : decode cL_law 15 = .ok (.astore_n 2, 1) := by decide +kernel
theorem dL_law_16 : decode cL_law 16 = .ok (.iconst 0, 1) := by decide +kernel
theorem dL_law_17 : decode cL_law 17 = .ok (.istore_n 3, 1) := by decide +kernel
theorem dL_law_18 : decode cL_law 18 = .ok (.iload_n 3, 1) := by decide +kernel
theorem dL_law_19 : decode cL_law 19 = .ok (.aload_n 0, 1) := by decide +kernel
theorem dL_law_20 : decode cL_law 20 = .ok (.arraylength, 1) := by decide +kernel
theorem dL_law_21 : decode cL_law 21 = .ok (.iconst 5, 1) := by decide +kernel
theorem dL_law_22 : decode cL_law 22 = .ok (.isub, 1) := by decide +kernel
theorem dL_law_23 : decode cL_law 23 = .ok (.if_icmp .gt 806, 3) := by decide +kernel
theorem dL_law_26 : decode cL_law 26 = .ok (.aload_n 0, 1) := by decide +kernel
theorem dL_law_27 : decode cL_law 27 = .ok (.iload_n 3, 1) := by decide +kernel
theorem dL_law_28 : decode cL_law 28 = .ok (.iaload, 1) := by decide +kernel
theorem dL_law_29 : decode cL_law 29 = .ok (.bipush 31, 2) := by decide +kernel
theorem dL_law_31 : decode cL_law 31 = .ok (.iand, 1) := by decide +kernel
theorem dL_law_32 : decode cL_law 32 = .ok (.tableswitch 791 0 24 #[116, 159, 202, 245, 278, 311, 334, 367, 420, 443, 476, 499, 512, 535, 568, 581, 594, 617, 640, 653, 676, 699, 722, 745, 768], 116) := by decide +kernel
theorem dL_law_148 : decode cL_law 148 = .ok (.aload_n 1, 1) := by decide +kernel
theorem dL_law_149 : decode cL_law 149 = .ok (.aload_n 0, 1) := by decide +kernel
theorem dL_law_150 : decode cL_law 150 = .ok (.iload_n 3, 1) := by decide +kernel
theorem dL_law_151 : decode cL_law 151 = .ok (.iconst 1, 1) := by decide +kernel
theorem dL_law_152 : decode cL_law 152 = .ok (.iadd, 1) := by decide +kernel
theorem dL_law_153 : decode cL_law 153 = .ok (.iaload, 1) := by decide +kernel
theorem dL_law_154 : decode cL_law 154 = .ok (.aload_n 0, 1) := by decide +kernel
theorem dL_law_155 : decode cL_law 155 = .ok (.iload_n 3, 1) := by decide +kernel
theorem dL_law_156 : decode cL_law 156 = .ok (.iconst 2, 1) := by decide +kernel
theorem dL_law_157 : decode cL_law 157 = .ok (.iadd, 1) := by decide +kernel
theorem dL_law_158 : decode cL_law 158 = .ok (.iaload, 1) := by decide +kernel
theorem dL_law_159 : decode cL_law 159 = .ok (.aload_n 0, 1) := by decide +kernel
theorem dL_law_160 : decode cL_law 160 = .ok (.iload_n 3, 1) := by decide +kernel
theorem dL_law_161 : decode cL_law 161 = .ok (.iconst 3, 1) := by decide +kernel
theorem dL_law_162 : decode cL_law 162 = .ok (.iadd, 1) := by decide +kernel
theorem dL_law_163 : decode cL_law 163 = .ok (.iaload, 1) := by decide +kernel
theorem dL_law_164 : decode cL_law 164 = .ok (.invokevirtual 13, 3) := by decide +kernel
theorem dL_law_167 : decode cL_law 167 = .ok (.aload_n 2, 1) := by decide +kernel
theorem dL_law_168 : decode cL_law 168 = .ok (.aload_n 0, 1) := by decide +kernel
theorem dL_law_169 : decode cL_law 169 = .ok (.iload_n 3, 1) := by decide +kernel
theorem dL_law_170 : decode cL_law 170 = .ok (.iconst 1, 1) := by decide +kernel
theorem dL_law_171 : decode cL_law 171 = .ok (.iadd, 1) := by decide +kernel
theorem dL_law_172 : decode cL_law 172 = .ok (.iaload, 1) := by decide +kernel
theorem dL_law_173 : decode cL_law 173 = .ok (.aload_n 0, 1) := by decide +kernel
theorem dL_law_174 : decode cL_law 174 = .ok (.iload_n 3, 1) := by decide +kernel
theorem dL_law_175 : decode cL_law 175 = .ok (.iconst 2, 1) := by decide +kernel
theorem dL_law_176 : decode cL_law 176 = .ok (.iadd, 1) := by decide +kernel
theorem dL_law_177 : decode cL_law 177 = .ok (.iaload, 1) := by decide +kernel
theorem dL_law_178 : decode cL_law 178 = .ok (.aload_n 0, 1) := by decide +kernel
theorem dL_law_179 : decode cL_law 179 = .ok (.iload_n 3, 1) := by decide +kernel
theorem dL_law_180 : decode cL_law 180 = .ok (.iconst 3, 1) := by decide +kernel
theorem dL_law_181 : decode cL_law 181 = .ok (.iadd, 1) := by decide +kernel
theorem dL_law_182 : decode cL_law 182 = .ok (.iaload, 1) := by decide +kernel
theorem dL_law_183 : decode cL_law 183 = .ok (.invokevirtual 17, 3) := by decide +kernel
theorem dL_law_186 : decode cL_law 186 = .ok (.if_icmp .eq 637, 3) := by decide +kernel
theorem dL_law_189 : decode cL_law 189 = .ok (.iconst 0, 1) := by decide +kernel
theorem dL_law_190 : decode cL_law 190 = .ok (.ireturn, 1) := by decide +kernel
theorem dL_law_191 : decode cL_law 191 = .ok (.aload_n 1, 1) := by decide +kernel
theorem dL_law_192 : decode cL_law 192 = .ok (.aload_n 0, 1) := by decide +kernel
theorem dL_law_193 : decode cL_law 193 = .ok (.iload_n 3, 1) := by decide +kernel
theorem dL_law_194 : decode cL_law 194 = .ok (.iconst 1, 1) := by decide +kernel
theorem dL_law_195 : decode cL_law 195 = .ok (.iadd, 1) := by decide +kernel
theorem dL_law_196 : decode cL_law 196 = .ok (.iaload, 1) := by decide +kernel
theorem dL_law_197 : decode cL_law 197 = .ok (.aload_n 0, 1) := by decide +kernel
theorem dL_law_198 : decode cL_law 198 = .ok (.iload_n 3, 1) := by decide +kernel
theorem dL_law_199 : decode cL_law 199 = .ok (.iconst 2, 1) := by decide +kernel
theorem dL_law_200 : decode cL_law 200 = .ok (.iadd, 1) := by decide +kernel
theorem dL_law_201 : decode cL_law 201 = .ok (.iaload, 1) := by decide +kernel
theorem dL_law_202 : decode cL_law 202 = .ok (.aload_n 0, 1) := by decide +kernel
theorem dL_law_203 : decode cL_law 203 = .ok (.iload_n 3, 1) := by decide +kernel
theorem dL_law_204 : decode cL_law 204 = .ok (.iconst 3, 1) := by decide +kernel
theorem dL_law_205 : decode cL_law 205 = .ok (.iadd, 1) := by decide +kernel
theorem dL_law_206 : decode cL_law 206 = .ok (.iaload, 1) := by decide +kernel
theorem dL_law_207 : decode cL_law 207 = .ok (.invokevirtual 18, 3) := by decide +kernel
theorem dL_law_210 : decode cL_law 210 = .ok (.aload_n 2, 1) := by decide +kernel
theorem dL_law_211 : decode cL_law 211 = .ok (.aload_n 0, 1) := by decide +kernel
theorem dL_law_212 : decode cL_law 212 = .ok (.iload_n 3, 1) := by decide +kernel
theorem dL_law_213 : decode cL_law 213 = .ok (.iconst 1, 1) := by decide +kernel
theorem dL_law_214 : decode cL_law 214 = .ok (.iadd, 1) := by decide +kernel
theorem dL_law_215 : decode cL_law 215 = .ok (.iaload, 1) := by decide +kernel
theorem dL_law_216 : decode cL_law 216 = .ok (.aload_n 0, 1) := by decide +kernel
theorem dL_law_217 : decode cL_law 217 = .ok (.iload_n 3, 1) := by decide +kernel
theorem dL_law_218 : decode cL_law 218 = .ok (.iconst 2, 1) := by decide +kernel
theorem dL_law_219 : decode cL_law 219 = .ok (.iadd, 1) := by decide +kernel
theorem dL_law_220 : decode cL_law 220 = .ok (.iaload, 1) := by decide +kernel
theorem dL_law_221 : decode cL_law 221 = .ok (.aload_n 0, 1) := by decide +kernel
theorem dL_law_222 : decode cL_law 222 = .ok (.iload_n 3, 1) := by decide +kernel
theorem dL_law_223 : decode cL_law 223 = .ok (.iconst 3, 1) := by decide +kernel
theorem dL_law_224 : decode cL_law 224 = .ok (.iadd, 1) := by decide +kernel
theorem dL_law_225 : decode cL_law 225 = .ok (.iaload, 1) := by decide +kernel
theorem dL_law_226 : decode cL_law 226 = .ok (.invokevirtual 21, 3) := by decide +kernel
theorem dL_law_229 : decode cL_law 229 = .ok (.if_icmp .eq 594, 3) := by decide +kernel
theorem dL_law_232 : decode cL_law 232 = .ok (.iconst 0, 1) := by decide +kernel
theorem dL_law_233 : decode cL_law 233 = .ok (.ireturn, 1) := by decide +kernel
theorem dL_law_234 : decode cL_law 234 = .ok (.aload_n 1, 1) := by decide +kernel
theorem dL_law_235 : decode cL_law 235 = .ok (.aload_n 0, 1) := by decide +kernel
theorem dL_law_236 : decode cL_law 236 = .ok (.iload_n 3, 1) := by decide +kernel
theorem dL_law_237 : decode cL_law 237 = .ok (.iconst 1, 1) := by decide +kernel
theorem dL_law_238 : decode cL_law 238 = .ok (.iadd, 1) := by decide +kernel
theorem dL_law_239 : decode cL_law 239 = .ok (.iaload, 1) := by decide +kernel
theorem dL_law_240 : decode cL_law 240 = .ok (.aload_n 0, 1) := by decide +kernel
theorem dL_law_241 : decode cL_law 241 = .ok (.iload_n 3, 1) := by decide +kernel
theorem dL_law_242 : decode cL_law 242 = .ok (.iconst 2, 1) := by decide +kernel
theorem dL_law_243 : decode cL_law 243 = .ok (.iadd, 1) := by decide +kernel
theorem dL_law_244 : decode cL_law 244 = .ok (.iaload, 1) := by decide +kernel
theorem dL_law_245 : decode cL_law 245 = .ok (.aload_n 0, 1) := by decide +kernel
theorem dL_law_246 : decode cL_law 246 = .ok (.iload_n 3, 1) := by decide +kernel
theorem dL_law_247 : decode cL_law 247 = .ok (.iconst 3, 1) := by decide +kernel
theorem dL_law_248 : decode cL_law 248 = .ok (.iadd, 1) := by decide +kernel
theorem dL_law_249 : decode cL_law 249 = .ok (.iaload, 1) := by decide +kernel
theorem dL_law_250 : decode cL_law 250 = .ok (.invokevirtual 22, 3) := by decide +kernel
theorem dL_law_253 : decode cL_law 253 = .ok (.aload_n 2, 1) := by decide +kernel
theorem dL_law_254 : decode cL_law 254 = .ok (.aload_n 0, 1) := by decide +kernel
theorem dL_law_255 : decode cL_law 255 = .ok (.iload_n 3, 1) := by decide +kernel
theorem dL_law_256 : decode cL_law 256 = .ok (.iconst 1, 1) := by decide +kernel
theorem dL_law_257 : decode cL_law 257 = .ok (.iadd, 1) := by decide +kernel
theorem dL_law_258 : decode cL_law 258 = .ok (.iaload, 1) := by decide +kernel
theorem dL_law_259 : decode cL_law 259 = .ok (.aload_n 0, 1) := by decide +kernel
theorem dL_law_260 : decode cL_law 260 = .ok (.iload_n 3, 1) := by decide +kernel
theorem dL_law_261 : decode cL_law 261 = .ok (.iconst 2, 1) := by decide +kernel
theorem dL_law_262 : decode cL_law 262 = .ok (.iadd, 1) := by decide +kernel
theorem dL_law_263 : decode cL_law 263 = .ok (.iaload, 1) := by decide +kernel
theorem dL_law_264 : decode cL_law 264 = .ok (.aload_n 0, 1) := by decide +kernel
theorem dL_law_265 : decode cL_law 265 = .ok (.iload_n 3, 1) := by decide +kernel
theorem dL_law_266 : decode cL_law 266 = .ok (.iconst 3, 1) := by decide +kernel
theorem dL_law_267 : decode cL_law 267 = .ok (.iadd, 1) := by decide +kernel
theorem dL_law_268 : decode cL_law 268 = .ok (.iaload, 1) := by decide +kernel
theorem dL_law_269 : decode cL_law 269 = .ok (.invokevirtual 25, 3) := by decide +kernel
theorem dL_law_272 : decode cL_law 272 = .ok (.if_icmp .eq 551, 3) := by decide +kernel
theorem dL_law_275 : decode cL_law 275 = .ok (.iconst 0, 1) := by decide +kernel
theorem dL_law_276 : decode cL_law 276 = .ok (.ireturn, 1) := by decide +kernel
theorem dL_law_277 : decode cL_law 277 = .ok (.aload_n 1, 1) := by decide +kernel
theorem dL_law_278 : decode cL_law 278 = .ok (.aload_n 0, 1) := by decide +kernel
theorem dL_law_279 : decode cL_law 279 = .ok (.iload_n 3, 1) := by decide +kernel
theorem dL_law_280 : decode cL_law 280 = .ok (.iconst 1, 1) := by decide +kernel
theorem dL_law_281 : decode cL_law 281 = .ok (.iadd, 1) := by decide +kernel
theorem dL_law_282 : decode cL_law 282 = .ok (.iaload, 1) := by decide +kernel
theorem dL_law_283 : decode cL_law 283 = .ok (.aload_n 0, 1) := by decide +kernel
theorem dL_law_284 : decode cL_law 284 = .ok (.iload_n 3, 1) := by decide +kernel
theorem dL_law_285 : decode cL_law 285 = .ok (.iconst 2, 1) := by decide +kernel
theorem dL_law_286 : decode cL_law 286 = .ok (.iadd, 1) := by decide +kernel
theorem dL_law_287 : decode cL_law 287 = .ok (.iaload, 1) := by decide +kernel
theorem dL_law_288 : decode cL_law 288 = .ok (.invokevirtual 26, 3) := by decide +kernel
theorem dL_law_291 : decode cL_law 291 = .ok (.aload_n 2, 1) := by decide +kernel
theorem dL_law_292 : decode cL_law 292 = .ok (.aload_n 0, 1) := by decide +kernel
theorem dL_law_293 : decode cL_law 293 = .ok (.iload_n 3, 1) := by decide +kernel
theorem dL_law_294 : decode cL_law 294 = .ok (.iconst 1, 1) := by decide +kernel
theorem dL_law_295 : decode cL_law 295 = .ok (.iadd, 1) := by decide +kernel
theorem dL_law_296 : decode cL_law 296 = .ok (.iaload, 1) := by decide +kernel
theorem dL_law_297 : decode cL_law 297 = .ok (.aload_n 0, 1) := by decide +kernel
theorem dL_law_298 : decode cL_law 298 = .ok (.iload_n 3, 1) := by decide +kernel
theorem dL_law_299 : decode cL_law 299 = .ok (.iconst 2, 1) := by decide +kernel
theorem dL_law_300 : decode cL_law 300 = .ok (.iadd, 1) := by decide +kernel
theorem dL_law_301 : decode cL_law 301 = .ok (.iaload, 1) := by decide +kernel
theorem dL_law_302 : decode cL_law 302 = .ok (.invokevirtual 30, 3) := by decide +kernel
theorem dL_law_305 : decode cL_law 305 = .ok (.if_icmp .eq 518, 3) := by decide +kernel
theorem dL_law_308 : decode cL_law 308 = .ok (.iconst 0, 1) := by decide +kernel
theorem dL_law_309 : decode cL_law 309 = .ok (.ireturn, 1) := by decide +kernel
theorem dL_law_310 : decode cL_law 310 = .ok (.aload_n 1, 1) := by decide +kernel
theorem dL_law_311 : decode cL_law 311 = .ok (.aload_n 0, 1) := by decide +kernel
theorem dL_law_312 : decode cL_law 312 = .ok (.iload_n 3, 1) := by decide +kernel
theorem dL_law_313 : decode cL_law 313 = .ok (.iconst 1, 1) := by decide +kernel
theorem dL_law_314 : decode cL_law 314 = .ok (.iadd, 1) := by decide +kernel
theorem dL_law_315 : decode cL_law 315 = .ok (.iaload, 1) := by decide +kernel
theorem dL_law_316 : decode cL_law 316 = .ok (.aload_n 0, 1) := by decide +kernel
theorem dL_law_317 : decode cL_law 317 = .ok (.iload_n 3, 1) := by decide +kernel
theorem dL_law_318 : decode cL_law 318 = .ok (.iconst 2, 1) := by decide +kernel
theorem dL_law_319 : decode cL_law 319 = .ok (.iadd, 1) := by decide +kernel
theorem dL_law_320 : decode cL_law 320 = .ok (.iaload, 1) := by decide +kernel
theorem dL_law_321 : decode cL_law 321 = .ok (.invokevirtual 31, 3) := by decide +kernel
theorem dL_law_324 : decode cL_law 324 = .ok (.aload_n 2, 1) := by decide +kernel
theorem dL_law_325 : decode cL_law 325 = .ok (.aload_n 0, 1) := by decide +kernel
theorem dL_law_326 : decode cL_law 326 = .ok (.iload_n 3, 1) := by decide +kernel
theorem dL_law_327 : decode cL_law 327 = .ok (.iconst 1, 1) := by decide +kernel
theorem dL_law_328 : decode cL_law 328 = .ok (.iadd, 1) := by decide +kernel
theorem dL_law_329 : decode cL_law 329 = .ok (.iaload, 1) := by decide +kernel
theorem dL_law_330 : decode cL_law 330 = .ok (.aload_n 0, 1) := by decide +kernel
theorem dL_law_331 : decode cL_law 331 = .ok (.iload_n 3, 1) := by decide +kernel
theorem dL_law_332 : decode cL_law 332 = .ok (.iconst 2, 1) := by decide +kernel
theorem dL_law_333 : decode cL_law 333 = .ok (.iadd, 1) := by decide +kernel
theorem dL_law_334 : decode cL_law 334 = .ok (.iaload, 1) := by decide +kernel
theorem dL_law_335 : decode cL_law 335 = .ok (.invokevirtual 34, 3) := by decide +kernel
theorem dL_law_338 : decode cL_law 338 = .ok (.if_icmp .eq 485, 3) := by decide +kernel
theorem dL_law_341 : decode cL_law 341 = .ok (.iconst 0, 1) := by decide +kernel
theorem dL_law_342 : decode cL_law 342 = .ok (.ireturn, 1) := by decide +kernel
theorem dL_law_343 : decode cL_law 343 = .ok (.aload_n 1, 1) := by decide +kernel
theorem dL_law_344 : decode cL_law 344 = .ok (.aload_n 0, 1) := by decide +kernel
theorem dL_law_345 : decode cL_law 345 = .ok (.iload_n 3, 1) := by decide +kernel
theorem dL_law_346 : decode cL_law 346 = .ok (.iconst 1, 1) := by decide +kernel
theorem dL_law_347 : decode cL_law 347 = .ok (.iadd, 1) := by decide +kernel
theorem dL_law_348 : decode cL_law 348 = .ok (.iaload, 1) := by decide +kernel
theorem dL_law_349 : decode cL_law 349 = .ok (.invokevirtual 35, 3) := by decide +kernel
theorem dL_law_352 : decode cL_law 352 = .ok (.aload_n 2, 1) := by decide +kernel
theorem dL_law_353 : decode cL_law 353 = .ok (.aload_n 0, 1) := by decide +kernel
theorem dL_law_354 : decode cL_law 354 = .ok (.iload_n 3, 1) := by decide +kernel
theorem dL_law_355 : decode cL_law 355 = .ok (.iconst 1, 1) := by decide +kernel
theorem dL_law_356 : decode cL_law 356 = .ok (.iadd, 1) := by decide +kernel
theorem dL_law_357 : decode cL_law 357 = .ok (.iaload, 1) := by decide +kernel
theorem dL_law_358 : decode cL_law 358 = .ok (.invokevirtual 39, 3) := by decide +kernel
theorem dL_law_361 : decode cL_law 361 = .ok (.if_icmp .eq 462, 3) := by decide +kernel
theorem dL_law_364 : decode cL_law 364 = .ok (.iconst 0, 1) := by decide +kernel
theorem dL_law_365 : decode cL_law 365 = .ok (.ireturn, 1) := by decide +kernel
theorem dL_law_366 : decode cL_law 366 = .ok (.aload_n 1, 1) := by decide +kernel
theorem dL_law_367 : decode cL_law 367 = .ok (.aload_n 0, 1) := by decide +kernel
theorem dL_law_368 : decode cL_law 368 = .ok (.iload_n 3, 1) := by decide +kernel
theorem dL_law_369 : decode cL_law 369 = .ok (.iconst 1, 1) := by decide +kernel
theorem dL_law_370 : decode cL_law 370 = .ok (.iadd, 1) := by decide +kernel
theorem dL_law_371 : decode cL_law 371 = .ok (.iaload, 1) := by decide +kernel
theorem dL_law_372 : decode cL_law 372 = .ok (.aload_n 0, 1) := by decide +kernel
theorem dL_law_373 : decode cL_law 373 = .ok (.iload_n 3, 1) := by decide +kernel
theorem dL_law_374 : decode cL_law 374 = .ok (.iconst 2, 1) := by decide +kernel
theorem dL_law_375 : decode cL_law 375 = .ok (.iadd, 1) := by decide +kernel
theorem dL_law_376 : decode cL_law 376 = .ok (.iaload, 1) := by decide +kernel
theorem dL_law_377 : decode cL_law 377 = .ok (.invokevirtual 40, 3) := by decide +kernel
theorem dL_law_380 : decode cL_law 380 = .ok (.aload_n 2, 1) := by decide +kernel
theorem dL_law_381 : decode cL_law 381 = .ok (.aload_n 0, 1) := by decide +kernel
theorem dL_law_382 : decode cL_law 382 = .ok (.iload_n 3, 1) := by decide +kernel
theorem dL_law_383 : decode cL_law 383 = .ok (.iconst 1, 1) := by decide +kernel
theorem dL_law_384 : decode cL_law 384 = .ok (.iadd, 1) := by decide +kernel
theorem dL_law_385 : decode cL_law 385 = .ok (.iaload, 1) := by decide +kernel
theorem dL_law_386 : decode cL_law 386 = .ok (.aload_n 0, 1) := by decide +kernel
theorem dL_law_387 : decode cL_law 387 = .ok (.iload_n 3, 1) := by decide +kernel
theorem dL_law_388 : decode cL_law 388 = .ok (.iconst 2, 1) := by decide +kernel
theorem dL_law_389 : decode cL_law 389 = .ok (.iadd, 1) := by decide +kernel
theorem dL_law_390 : decode cL_law 390 = .ok (.iaload, 1) := by decide +kernel
theorem dL_law_391 : decode cL_law 391 = .ok (.invokevirtual 43, 3) := by decide +kernel
theorem dL_law_394 : decode cL_law 394 = .ok (.if_icmp .eq 429, 3) := by decide +kernel
theorem dL_law_397 : decode cL_law 397 = .ok (.iconst 0, 1) := by decide +kernel
theorem dL_law_398 : decode cL_law 398 = .ok (.ireturn, 1) := by decide +kernel
theorem dL_law_399 : decode cL_law 399 = .ok (.aload_n 1, 1) := by decide +kernel
theorem dL_law_400 : decode cL_law 400 = .ok (.aload_n 0, 1) := by decide +kernel
theorem dL_law_401 : decode cL_law 401 = .ok (.iload_n 3, 1) := by decide +kernel
theorem dL_law_402 : decode cL_law 402 = .ok (.iconst 1, 1) := by decide +kernel
theorem dL_law_403 : decode cL_law 403 = .ok (.iadd, 1) := by decide +kernel
theorem dL_law_404 : decode cL_law 404 = .ok (.iaload, 1) := by decide +kernel
theorem dL_law_405 : decode cL_law 405 = .ok (.aload_n 0, 1) := by decide +kernel
theorem dL_law_406 : decode cL_law 406 = .ok (.iload_n 3, 1) := by decide +kernel
theorem dL_law_407 : decode cL_law 407 = .ok (.iconst 2, 1) := by decide +kernel
theorem dL_law_408 : decode cL_law 408 = .ok (.iadd, 1) := by decide +kernel
theorem dL_law_409 : decode cL_law 409 = .ok (.iaload, 1) := by decide +kernel
theorem dL_law_410 : decode cL_law 410 = .ok (.aload_n 0, 1) := by decide +kernel
theorem dL_law_411 : decode cL_law 411 = .ok (.iload_n 3, 1) := by decide +kernel
theorem dL_law_412 : decode cL_law 412 = .ok (.iconst 3, 1) := by decide +kernel
theorem dL_law_413 : decode cL_law 413 = .ok (.iadd, 1) := by decide +kernel
theorem dL_law_414 : decode cL_law 414 = .ok (.iaload, 1) := by decide +kernel
theorem dL_law_415 : decode cL_law 415 = .ok (.aload_n 0, 1) := by decide +kernel
theorem dL_law_416 : decode cL_law 416 = .ok (.iload_n 3, 1) := by decide +kernel
theorem dL_law_417 : decode cL_law 417 = .ok (.iconst 4, 1) := by decide +kernel
theorem dL_law_418 : decode cL_law 418 = .ok (.iadd, 1) := by decide +kernel
theorem dL_law_419 : decode cL_law 419 = .ok (.iaload, 1) := by decide +kernel
theorem dL_law_420 : decode cL_law 420 = .ok (.invokevirtual 44, 3) := by decide +kernel
theorem dL_law_423 : decode cL_law 423 = .ok (.aload_n 2, 1) := by decide +kernel
theorem dL_law_424 : decode cL_law 424 = .ok (.aload_n 0, 1) := by decide +kernel
theorem dL_law_425 : decode cL_law 425 = .ok (.iload_n 3, 1) := by decide +kernel
theorem dL_law_426 : decode cL_law 426 = .ok (.iconst 1, 1) := by decide +kernel
theorem dL_law_427 : decode cL_law 427 = .ok (.iadd, 1) := by decide +kernel
theorem dL_law_428 : decode cL_law 428 = .ok (.iaload, 1) := by decide +kernel
theorem dL_law_429 : decode cL_law 429 = .ok (.aload_n 0, 1) := by decide +kernel
theorem dL_law_430 : decode cL_law 430 = .ok (.iload_n 3, 1) := by decide +kernel
theorem dL_law_431 : decode cL_law 431 = .ok (.iconst 2, 1) := by decide +kernel
theorem dL_law_432 : decode cL_law 432 = .ok (.iadd, 1) := by decide +kernel
theorem dL_law_433 : decode cL_law 433 = .ok (.iaload, 1) := by decide +kernel
theorem dL_law_434 : decode cL_law 434 = .ok (.aload_n 0, 1) := by decide +kernel
theorem dL_law_435 : decode cL_law 435 = .ok (.iload_n 3, 1) := by decide +kernel
theorem dL_law_436 : decode cL_law 436 = .ok (.iconst 3, 1) := by decide +kernel
theorem dL_law_437 : decode cL_law 437 = .ok (.iadd, 1) := by decide +kernel
theorem dL_law_438 : decode cL_law 438 = .ok (.iaload, 1) := by decide +kernel
theorem dL_law_439 : decode cL_law 439 = .ok (.aload_n 0, 1) := by decide +kernel
theorem dL_law_440 : decode cL_law 440 = .ok (.iload_n 3, 1) := by decide +kernel
theorem dL_law_441 : decode cL_law 441 = .ok (.iconst 4, 1) := by decide +kernel
theorem dL_law_442 : decode cL_law 442 = .ok (.iadd, 1) := by decide +kernel
theorem dL_law_443 : decode cL_law 443 = .ok (.iaload, 1) := by decide +kernel
theorem dL_law_444 : decode cL_law 444 = .ok (.invokevirtual 48, 3) := by decide +kernel
theorem dL_law_447 : decode cL_law 447 = .ok (.if_icmp .eq 376, 3) := by decide +kernel
theorem dL_law_450 : decode cL_law 450 = .ok (.iconst 0, 1) := by decide +kernel
theorem dL_law_451 : decode cL_law 451 = .ok (.ireturn, 1) := by decide +kernel
theorem dL_law_452 : decode cL_law 452 = .ok (.aload_n 1, 1) := by decide +kernel
theorem dL_law_453 : decode cL_law 453 = .ok (.aload_n 0, 1) := by decide +kernel
theorem dL_law_454 : decode cL_law 454 = .ok (.iload_n 3, 1) := by decide +kernel
theorem dL_law_455 : decode cL_law 455 = .ok (.iconst 1, 1) := by decide +kernel
theorem dL_law_456 : decode cL_law 456 = .ok (.iadd, 1) := by decide +kernel
theorem dL_law_457 : decode cL_law 457 = .ok (.iaload, 1) := by decide +kernel
theorem dL_law_458 : decode cL_law 458 = .ok (.invokevirtual 49, 3) := by decide +kernel
theorem dL_law_461 : decode cL_law 461 = .ok (.aload_n 2, 1) := by decide +kernel
theorem dL_law_462 : decode cL_law 462 = .ok (.aload_n 0, 1) := by decide +kernel
theorem dL_law_463 : decode cL_law 463 = .ok (.iload_n 3, 1) := by decide +kernel
theorem dL_law_464 : decode cL_law 464 = .ok (.iconst 1, 1) := by decide +kernel
theorem dL_law_465 : decode cL_law 465 = .ok (.iadd, 1) := by decide +kernel
theorem dL_law_466 : decode cL_law 466 = .ok (.iaload, 1) := by decide +kernel
theorem dL_law_467 : decode cL_law 467 = .ok (.invokevirtual 52, 3) := by decide +kernel
theorem dL_law_470 : decode cL_law 470 = .ok (.if_icmp .eq 353, 3) := by decide +kernel
theorem dL_law_473 : decode cL_law 473 = .ok (.iconst 0, 1) := by decide +kernel
theorem dL_law_474 : decode cL_law 474 = .ok (.ireturn, 1) := by decide +kernel
theorem dL_law_475 : decode cL_law 475 = .ok (.aload_n 1, 1) := by decide +kernel
theorem dL_law_476 : decode cL_law 476 = .ok (.aload_n 0, 1) := by decide +kernel
theorem dL_law_477 : decode cL_law 477 = .ok (.iload_n 3, 1) := by decide +kernel
theorem dL_law_478 : decode cL_law 478 = .ok (.iconst 1, 1) := by decide +kernel
theorem dL_law_479 : decode cL_law 479 = .ok (.iadd, 1) := by decide +kernel
theorem dL_law_480 : decode cL_law 480 = .ok (.iaload, 1) := by decide +kernel
theorem dL_law_481 : decode cL_law 481 = .ok (.aload_n 0, 1) := by decide +kernel
theorem dL_law_482 : decode cL_law 482 = .ok (.iload_n 3, 1) := by decide +kernel
theorem dL_law_483 : decode cL_law 483 = .ok (.iconst 2, 1) := by decide +kernel
theorem dL_law_484 : decode cL_law 484 = .ok (.iadd, 1) := by decide +kernel
theorem dL_law_485 : decode cL_law 485 = .ok (.iaload, 1) := by decide +kernel
theorem dL_law_486 : decode cL_law 486 = .ok (.invokevirtual 53, 3) := by decide +kernel
theorem dL_law_489 : decode cL_law 489 = .ok (.aload_n 2, 1) := by decide +kernel
theorem dL_law_490 : decode cL_law 490 = .ok (.aload_n 0, 1) := by decide +kernel
theorem dL_law_491 : decode cL_law 491 = .ok (.iload_n 3, 1) := by decide +kernel
theorem dL_law_492 : decode cL_law 492 = .ok (.iconst 1, 1) := by decide +kernel
theorem dL_law_493 : decode cL_law 493 = .ok (.iadd, 1) := by decide +kernel
theorem dL_law_494 : decode cL_law 494 = .ok (.iaload, 1) := by decide +kernel
theorem dL_law_495 : decode cL_law 495 = .ok (.aload_n 0, 1) := by decide +kernel
theorem dL_law_496 : decode cL_law 496 = .ok (.iload_n 3, 1) := by decide +kernel
theorem dL_law_497 : decode cL_law 497 = .ok (.iconst 2, 1) := by decide +kernel
theorem dL_law_498 : decode cL_law 498 = .ok (.iadd, 1) := by decide +kernel
theorem dL_law_499 : decode cL_law 499 = .ok (.iaload, 1) := by decide +kernel
theorem dL_law_500 : decode cL_law 500 = .ok (.invokevirtual 56, 3) := by decide +kernel
theorem dL_law_503 : decode cL_law 503 = .ok (.if_icmp .eq 320, 3) := by decide +kernel
theorem dL_law_506 : decode cL_law 506 = .ok (.iconst 0, 1) := by decide +kernel
theorem dL_law_507 : decode cL_law 507 = .ok (.ireturn, 1) := by decide +kernel
theorem dL_law_508 : decode cL_law 508 = .ok (.aload_n 1, 1) := by decide +kernel
theorem dL_law_509 : decode cL_law 509 = .ok (.aload_n 0, 1) := by decide +kernel
theorem dL_law_510 : decode cL_law 510 = .ok (.iload_n 3, 1) := by decide +kernel
theorem dL_law_511 : decode cL_law 511 = .ok (.iconst 1, 1) := by decide +kernel
theorem dL_law_512 : decode cL_law 512 = .ok (.iadd, 1) := by decide +kernel
theorem dL_law_513 : decode cL_law 513 = .ok (.iaload, 1) := by decide +kernel
theorem dL_law_514 : decode cL_law 514 = .ok (.invokevirtual 57, 3) := by decide +kernel
theorem dL_law_517 : decode cL_law 517 = .ok (.aload_n 2, 1) := by decide +kernel
theorem dL_law_518 : decode cL_law 518 = .ok (.aload_n 0, 1) := by decide +kernel
theorem dL_law_519 : decode cL_law 519 = .ok (.iload_n 3, 1) := by decide +kernel
theorem dL_law_520 : decode cL_law 520 = .ok (.iconst 1, 1) := by decide +kernel
theorem dL_law_521 : decode cL_law 521 = .ok (.iadd, 1) := by decide +kernel
theorem dL_law_522 : decode cL_law 522 = .ok (.iaload, 1) := by decide +kernel
theorem dL_law_523 : decode cL_law 523 = .ok (.invokevirtual 60, 3) := by decide +kernel
theorem dL_law_526 : decode cL_law 526 = .ok (.if_icmp .eq 297, 3) := by decide +kernel
theorem dL_law_529 : decode cL_law 529 = .ok (.iconst 0, 1) := by decide +kernel
theorem dL_law_530 : decode cL_law 530 = .ok (.ireturn, 1) := by decide +kernel
theorem dL_law_531 : decode cL_law 531 = .ok (.aload_n 1, 1) := by decide +kernel
theorem dL_law_532 : decode cL_law 532 = .ok (.invokevirtual 61, 3) := by decide +kernel
theorem dL_law_535 : decode cL_law 535 = .ok (.aload_n 2, 1) := by decide +kernel
theorem dL_law_536 : decode cL_law 536 = .ok (.invokevirtual 65, 3) := by decide +kernel
theorem dL_law_539 : decode cL_law 539 = .ok (.if_icmp .eq 284, 3) := by decide +kernel
theorem dL_law_542 : decode cL_law 542 = .ok (.iconst 0, 1) := by decide +kernel
theorem dL_law_543 : decode cL_law 543 = .ok (.ireturn, 1) := by decide +kernel
theorem dL_law_544 : decode cL_law 544 = .ok (.aload_n 1, 1) := by decide +kernel
theorem dL_law_545 : decode cL_law 545 = .ok (.aload_n 0, 1) := by decide +kernel
theorem dL_law_546 : decode cL_law 546 = .ok (.iload_n 3, 1) := by decide +kernel
theorem dL_law_547 : decode cL_law 547 = .ok (.iconst 1, 1) := by decide +kernel
theorem dL_law_548 : decode cL_law 548 = .ok (.iadd, 1) := by decide +kernel
theorem dL_law_549 : decode cL_law 549 = .ok (.iaload, 1) := by decide +kernel
theorem dL_law_550 : decode cL_law 550 = .ok (.invokevirtual 66, 3) := by decide +kernel
theorem dL_law_553 : decode cL_law 553 = .ok (.aload_n 2, 1) := by decide +kernel
theorem dL_law_554 : decode cL_law 554 = .ok (.aload_n 0, 1) := by decide +kernel
theorem dL_law_555 : decode cL_law 555 = .ok (.iload_n 3, 1) := by decide +kernel
theorem dL_law_556 : decode cL_law 556 = .ok (.iconst 1, 1) := by decide +kernel
theorem dL_law_557 : decode cL_law 557 = .ok (.iadd, 1) := by decide +kernel
theorem dL_law_558 : decode cL_law 558 = .ok (.iaload, 1) := by decide +kernel
theorem dL_law_559 : decode cL_law 559 = .ok (.invokevirtual 69, 3) := by decide +kernel
theorem dL_law_562 : decode cL_law 562 = .ok (.if_icmp .eq 261, 3) := by decide +kernel
theorem dL_law_565 : decode cL_law 565 = .ok (.iconst 0, 1) := by decide +kernel
theorem dL_law_566 : decode cL_law 566 = .ok (.ireturn, 1) := by decide +kernel
theorem dL_law_567 : decode cL_law 567 = .ok (.aload_n 1, 1) := by decide +kernel
theorem dL_law_568 : decode cL_law 568 = .ok (.aload_n 0, 1) := by decide +kernel
theorem dL_law_569 : decode cL_law 569 = .ok (.iload_n 3, 1) := by decide +kernel
theorem dL_law_570 : decode cL_law 570 = .ok (.iconst 1, 1) := by decide +kernel
theorem dL_law_571 : decode cL_law 571 = .ok (.iadd, 1) := by decide +kernel
theorem dL_law_572 : decode cL_law 572 = .ok (.iaload, 1) := by decide +kernel
theorem dL_law_573 : decode cL_law 573 = .ok (.aload_n 0, 1) := by decide +kernel
theorem dL_law_574 : decode cL_law 574 = .ok (.iload_n 3, 1) := by decide +kernel
theorem dL_law_575 : decode cL_law 575 = .ok (.iconst 2, 1) := by decide +kernel
theorem dL_law_576 : decode cL_law 576 = .ok (.iadd, 1) := by decide +kernel
theorem dL_law_577 : decode cL_law 577 = .ok (.iaload, 1) := by decide +kernel
theorem dL_law_578 : decode cL_law 578 = .ok (.invokevirtual 70, 3) := by decide +kernel
theorem dL_law_581 : decode cL_law 581 = .ok (.aload_n 2, 1) := by decide +kernel
theorem dL_law_582 : decode cL_law 582 = .ok (.aload_n 0, 1) := by decide +kernel
theorem dL_law_583 : decode cL_law 583 = .ok (.iload_n 3, 1) := by decide +kernel
theorem dL_law_584 : decode cL_law 584 = .ok (.iconst 1, 1) := by decide +kernel
theorem dL_law_585 : decode cL_law 585 = .ok (.iadd, 1) := by decide +kernel
theorem dL_law_586 : decode cL_law 586 = .ok (.iaload, 1) := by decide +kernel
theorem dL_law_587 : decode cL_law 587 = .ok (.aload_n 0, 1) := by decide +kernel
theorem dL_law_588 : decode cL_law 588 = .ok (.iload_n 3, 1) := by decide +kernel
theorem dL_law_589 : decode cL_law 589 = .ok (.iconst 2, 1) := by decide +kernel
theorem dL_law_590 : decode cL_law 590 = .ok (.iadd, 1) := by decide +kernel
theorem dL_law_591 : decode cL_law 591 = .ok (.iaload, 1) := by decide +kernel
theorem dL_law_592 : decode cL_law 592 = .ok (.invokevirtual 73, 3) := by decide +kernel
theorem dL_law_595 : decode cL_law 595 = .ok (.if_icmp .eq 228, 3) := by decide +kernel
theorem dL_law_598 : decode cL_law 598 = .ok (.iconst 0, 1) := by decide +kernel
theorem dL_law_599 : decode cL_law 599 = .ok (.ireturn, 1) := by decide +kernel
theorem dL_law_600 : decode cL_law 600 = .ok (.aload_n 1, 1) := by decide +kernel
theorem dL_law_601 : decode cL_law 601 = .ok (.invokevirtual 74, 3) := by decide +kernel
theorem dL_law_604 : decode cL_law 604 = .ok (.aload_n 2, 1) := by decide +kernel
theorem dL_law_605 : decode cL_law 605 = .ok (.invokevirtual 77, 3) := by decide +kernel
theorem dL_law_608 : decode cL_law 608 = .ok (.if_icmp .eq 215, 3) := by decide +kernel
theorem dL_law_611 : decode cL_law 611 = .ok (.iconst 0, 1) := by decide +kernel
theorem dL_law_612 : decode cL_law 612 = .ok (.ireturn, 1) := by decide +kernel
theorem dL_law_613 : decode cL_law 613 = .ok (.aload_n 1, 1) := by decide +kernel
theorem dL_law_614 : decode cL_law 614 = .ok (.invokevirtual 78, 3) := by decide +kernel
theorem dL_law_617 : decode cL_law 617 = .ok (.aload_n 2, 1) := by decide +kernel
theorem dL_law_618 : decode cL_law 618 = .ok (.invokevirtual 81, 3) := by decide +kernel
theorem dL_law_621 : decode cL_law 621 = .ok (.if_icmp .eq 202, 3) := by decide +kernel
theorem dL_law_624 : decode cL_law 624 = .ok (.iconst 0, 1) := by decide +kernel
theorem dL_law_625 : decode cL_law 625 = .ok (.ireturn, 1) := by decide +kernel
theorem dL_law_626 : decode cL_law 626 = .ok (.aload_n 1, 1) := by decide +kernel
theorem dL_law_627 : decode cL_law 627 = .ok (.aload_n 0, 1) := by decide +kernel
theorem dL_law_628 : decode cL_law 628 = .ok (.iload_n 3, 1) := by decide +kernel
theorem dL_law_629 : decode cL_law 629 = .ok (.iconst 1, 1) := by decide +kernel
theorem dL_law_630 : decode cL_law 630 = .ok (.iadd, 1) := by decide +kernel
theorem dL_law_631 : decode cL_law 631 = .ok (.iaload, 1) := by decide +kernel
theorem dL_law_632 : decode cL_law 632 = .ok (.invokevirtual 82, 3) := by decide +kernel
theorem dL_law_635 : decode cL_law 635 = .ok (.aload_n 2, 1) := by decide +kernel
theorem dL_law_636 : decode cL_law 636 = .ok (.aload_n 0, 1) := by decide +kernel
theorem dL_law_637 : decode cL_law 637 = .ok (.iload_n 3, 1) := by decide +kernel
theorem dL_law_638 : decode cL_law 638 = .ok (.iconst 1, 1) := by decide +kernel
theorem dL_law_639 : decode cL_law 639 = .ok (.iadd, 1) := by decide +kernel
theorem dL_law_640 : decode cL_law 640 = .ok (.iaload, 1) := by decide +kernel
theorem dL_law_641 : decode cL_law 641 = .ok (.invokevirtual 85, 3) := by decide +kernel
theorem dL_law_644 : decode cL_law 644 = .ok (.if_icmp .eq 179, 3) := by decide +kernel
theorem dL_law_647 : decode cL_law 647 = .ok (.iconst 0, 1) := by decide +kernel
theorem dL_law_648 : decode cL_law 648 = .ok (.ireturn, 1) := by decide +kernel
theorem dL_law_649 : decode cL_law 649 = .ok (.aload_n 1, 1) := by decide +kernel
theorem dL_law_650 : decode cL_law 650 = .ok (.aload_n 0, 1) := by decide +kernel
theorem dL_law_651 : decode cL_law 651 = .ok (.iload_n 3, 1) := by decide +kernel
theorem dL_law_652 : decode cL_law 652 = .ok (.iconst 1, 1) := by decide +kernel
theorem dL_law_653 : decode cL_law 653 = .ok (.iadd, 1) := by decide +kernel
theorem dL_law_654 : decode cL_law 654 = .ok (.iaload, 1) := by decide +kernel
theorem dL_law_655 : decode cL_law 655 = .ok (.invokevirtual 86, 3) := by decide +kernel
theorem dL_law_658 : decode cL_law 658 = .ok (.aload_n 2, 1) := by decide +kernel
theorem dL_law_659 : decode cL_law 659 = .ok (.aload_n 0, 1) := by decide +kernel
theorem dL_law_660 : decode cL_law 660 = .ok (.iload_n 3, 1) := by decide +kernel
theorem dL_law_661 : decode cL_law 661 = .ok (.iconst 1, 1) := by decide +kernel
theorem dL_law_662 : decode cL_law 662 = .ok (.iadd, 1) := by decide +kernel
theorem dL_law_663 : decode cL_law 663 = .ok (.iaload, 1) := by decide +kernel
theorem dL_law_664 : decode cL_law 664 = .ok (.invokevirtual 89, 3) := by decide +kernel
theorem dL_law_667 : decode cL_law 667 = .ok (.if_icmp .eq 156, 3) := by decide +kernel
theorem dL_law_670 : decode cL_law 670 = .ok (.iconst 0, 1) := by decide +kernel
theorem dL_law_671 : decode cL_law 671 = .ok (.ireturn, 1) := by decide +kernel
theorem dL_law_672 : decode cL_law 672 = .ok (.aload_n 1, 1) := by decide +kernel
theorem dL_law_673 : decode cL_law 673 = .ok (.invokevirtual 90, 3) := by decide +kernel
theorem dL_law_676 : decode cL_law 676 = .ok (.aload_n 2, 1) := by decide +kernel
theorem dL_law_677 : decode cL_law 677 = .ok (.invokevirtual 93, 3) := by decide +kernel
theorem dL_law_680 : decode cL_law 680 = .ok (.if_icmp .eq 143, 3) := by decide +kernel
theorem dL_law_683 : decode cL_law 683 = .ok (.iconst 0, 1) := by decide +kernel
theorem dL_law_684 : decode cL_law 684 = .ok (.ireturn, 1) := by decide +kernel
theorem dL_law_685 : decode cL_law 685 = .ok (.aload_n 1, 1) := by decide +kernel
theorem dL_law_686 : decode cL_law 686 = .ok (.aload_n 0, 1) := by decide +kernel
theorem dL_law_687 : decode cL_law 687 = .ok (.iload_n 3, 1) := by decide +kernel
theorem dL_law_688 : decode cL_law 688 = .ok (.iconst 1, 1) := by decide +kernel
theorem dL_law_689 : decode cL_law 689 = .ok (.iadd, 1) := by decide +kernel
theorem dL_law_690 : decode cL_law 690 = .ok (.iaload, 1) := by decide +kernel
theorem dL_law_691 : decode cL_law 691 = .ok (.invokevirtual 94, 3) := by decide +kernel
theorem dL_law_694 : decode cL_law 694 = .ok (.aload_n 2, 1) := by decide +kernel
theorem dL_law_695 : decode cL_law 695 = .ok (.aload_n 0, 1) := by decide +kernel
theorem dL_law_696 : decode cL_law 696 = .ok (.iload_n 3, 1) := by decide +kernel
theorem dL_law_697 : decode cL_law 697 = .ok (.iconst 1, 1) := by decide +kernel
theorem dL_law_698 : decode cL_law 698 = .ok (.iadd, 1) := by decide +kernel
theorem dL_law_699 : decode cL_law 699 = .ok (.iaload, 1) := by decide +kernel
theorem dL_law_700 : decode cL_law 700 = .ok (.invokevirtual 97, 3) := by decide +kernel
theorem dL_law_703 : decode cL_law 703 = .ok (.if_icmp .eq 120, 3) := by decide +kernel
theorem dL_law_706 : decode cL_law 706 = .ok (.iconst 0, 1) := by decide +kernel
theorem dL_law_707 : decode cL_law 707 = .ok (.ireturn, 1) := by decide +kernel
theorem dL_law_708 : decode cL_law 708 = .ok (.aload_n 1, 1) := by decide +kernel
theorem dL_law_709 : decode cL_law 709 = .ok (.aload_n 0, 1) := by decide +kernel
theorem dL_law_710 : decode cL_law 710 = .ok (.iload_n 3, 1) := by decide +kernel
theorem dL_law_711 : decode cL_law 711 = .ok (.iconst 1, 1) := by decide +kernel
theorem dL_law_712 : decode cL_law 712 = .ok (.iadd, 1) := by decide +kernel
theorem dL_law_713 : decode cL_law 713 = .ok (.iaload, 1) := by decide +kernel
theorem dL_law_714 : decode cL_law 714 = .ok (.invokevirtual 98, 3) := by decide +kernel
theorem dL_law_717 : decode cL_law 717 = .ok (.aload_n 2, 1) := by decide +kernel
theorem dL_law_718 : decode cL_law 718 = .ok (.aload_n 0, 1) := by decide +kernel
theorem dL_law_719 : decode cL_law 719 = .ok (.iload_n 3, 1) := by decide +kernel
theorem dL_law_720 : decode cL_law 720 = .ok (.iconst 1, 1) := by decide +kernel
theorem dL_law_721 : decode cL_law 721 = .ok (.iadd, 1) := by decide +kernel
theorem dL_law_722 : decode cL_law 722 = .ok (.iaload, 1) := by decide +kernel
theorem dL_law_723 : decode cL_law 723 = .ok (.invokevirtual 101, 3) := by decide +kernel
theorem dL_law_726 : decode cL_law 726 = .ok (.if_icmp .eq 97, 3) := by decide +kernel
theorem dL_law_729 : decode cL_law 729 = .ok (.iconst 0, 1) := by decide +kernel
theorem dL_law_730 : decode cL_law 730 = .ok (.ireturn, 1) := by decide +kernel
theorem dL_law_731 : decode cL_law 731 = .ok (.aload_n 1, 1) := by decide +kernel
theorem dL_law_732 : decode cL_law 732 = .ok (.aload_n 0, 1) := by decide +kernel
theorem dL_law_733 : decode cL_law 733 = .ok (.iload_n 3, 1) := by decide +kernel
theorem dL_law_734 : decode cL_law 734 = .ok (.iconst 1, 1) := by decide +kernel
theorem dL_law_735 : decode cL_law 735 = .ok (.iadd, 1) := by decide +kernel
theorem dL_law_736 : decode cL_law 736 = .ok (.iaload, 1) := by decide +kernel
theorem dL_law_737 : decode cL_law 737 = .ok (.invokevirtual 102, 3) := by decide +kernel
theorem dL_law_740 : decode cL_law 740 = .ok (.aload_n 2, 1) := by decide +kernel
theorem dL_law_741 : decode cL_law 741 = .ok (.aload_n 0, 1) := by decide +kernel
theorem dL_law_742 : decode cL_law 742 = .ok (.iload_n 3, 1) := by decide +kernel
theorem dL_law_743 : decode cL_law 743 = .ok (.iconst 1, 1) := by decide +kernel
theorem dL_law_744 : decode cL_law 744 = .ok (.iadd, 1) := by decide +kernel
theorem dL_law_745 : decode cL_law 745 = .ok (.iaload, 1) := by decide +kernel
theorem dL_law_746 : decode cL_law 746 = .ok (.invokevirtual 105, 3) := by decide +kernel
theorem dL_law_749 : decode cL_law 749 = .ok (.if_icmp .eq 74, 3) := by decide +kernel
theorem dL_law_752 : decode cL_law 752 = .ok (.iconst 0, 1) := by decide +kernel
theorem dL_law_753 : decode cL_law 753 = .ok (.ireturn, 1) := by decide +kernel
theorem dL_law_754 : decode cL_law 754 = .ok (.aload_n 1, 1) := by decide +kernel
theorem dL_law_755 : decode cL_law 755 = .ok (.aload_n 0, 1) := by decide +kernel
theorem dL_law_756 : decode cL_law 756 = .ok (.iload_n 3, 1) := by decide +kernel
theorem dL_law_757 : decode cL_law 757 = .ok (.iconst 1, 1) := by decide +kernel
theorem dL_law_758 : decode cL_law 758 = .ok (.iadd, 1) := by decide +kernel
theorem dL_law_759 : decode cL_law 759 = .ok (.iaload, 1) := by decide +kernel
theorem dL_law_760 : decode cL_law 760 = .ok (.invokevirtual 106, 3) := by decide +kernel
theorem dL_law_763 : decode cL_law 763 = .ok (.aload_n 2, 1) := by decide +kernel
theorem dL_law_764 : decode cL_law 764 = .ok (.aload_n 0, 1) := by decide +kernel
theorem dL_law_765 : decode cL_law 765 = .ok (.iload_n 3, 1) := by decide +kernel
theorem dL_law_766 : decode cL_law 766 = .ok (.iconst 1, 1) := by decide +kernel
theorem dL_law_767 : decode cL_law 767 = .ok (.iadd, 1) := by decide +kernel
theorem dL_law_768 : decode cL_law 768 = .ok (.iaload, 1) := by decide +kernel
theorem dL_law_769 : decode cL_law 769 = .ok (.invokevirtual 109, 3) := by decide +kernel
theorem dL_law_772 : decode cL_law 772 = .ok (.if_icmp .eq 51, 3) := by decide +kernel
theorem dL_law_775 : decode cL_law 775 = .ok (.iconst 0, 1) := by decide +kernel
theorem dL_law_776 : decode cL_law 776 = .ok (.ireturn, 1) := by decide +kernel
theorem dL_law_777 : decode cL_law 777 = .ok (.aload_n 1, 1) := by decide +kernel
theorem dL_law_778 : decode cL_law 778 = .ok (.aload_n 0, 1) := by decide +kernel
theorem dL_law_779 : decode cL_law 779 = .ok (.iload_n 3, 1) := by decide +kernel
theorem dL_law_780 : decode cL_law 780 = .ok (.iconst 1, 1) := by decide +kernel
theorem dL_law_781 : decode cL_law 781 = .ok (.iadd, 1) := by decide +kernel
theorem dL_law_782 : decode cL_law 782 = .ok (.iaload, 1) := by decide +kernel
theorem dL_law_783 : decode cL_law 783 = .ok (.invokevirtual 110, 3) := by decide +kernel
theorem dL_law_786 : decode cL_law 786 = .ok (.aload_n 2, 1) := by decide +kernel
theorem dL_law_787 : decode cL_law 787 = .ok (.aload_n 0, 1) := by decide +kernel
theorem dL_law_788 : decode cL_law 788 = .ok (.iload_n 3, 1) := by decide +kernel
theorem dL_law_789 : decode cL_law 789 = .ok (.iconst 1, 1) := by decide +kernel
theorem dL_law_790 : decode cL_law 790 = .ok (.iadd, 1) := by decide +kernel
theorem dL_law_791 : decode cL_law 791 = .ok (.iaload, 1) := by decide +kernel
theorem dL_law_792 : decode cL_law 792 = .ok (.invokevirtual 113, 3) := by decide +kernel
theorem dL_law_795 : decode cL_law 795 = .ok (.if_icmp .eq 28, 3) := by decide +kernel
theorem dL_law_798 : decode cL_law 798 = .ok (.iconst 0, 1) := by decide +kernel
theorem dL_law_799 : decode cL_law 799 = .ok (.ireturn, 1) := by decide +kernel
theorem dL_law_800 : decode cL_law 800 = .ok (.aload_n 1, 1) := by decide +kernel
theorem dL_law_801 : decode cL_law 801 = .ok (.aload_n 0, 1) := by decide +kernel
theorem dL_law_802 : decode cL_law 802 = .ok (.iload_n 3, 1) := by decide +kernel
theorem dL_law_803 : decode cL_law 803 = .ok (.iconst 1, 1) := by decide +kernel
theorem dL_law_804 : decode cL_law 804 = .ok (.iadd, 1) := by decide +kernel
theorem dL_law_805 : decode cL_law 805 = .ok (.iaload, 1) := by decide +kernel
theorem dL_law_806 : decode cL_law 806 = .ok (.invokevirtual 114, 3) := by decide +kernel
theorem dL_law_809 : decode cL_law 809 = .ok (.aload_n 2, 1) := by decide +kernel
theorem dL_law_810 : decode cL_law 810 = .ok (.aload_n 0, 1) := by decide +kernel
theorem dL_law_811 : decode cL_law 811 = .ok (.iload_n 3, 1) := by decide +kernel
theorem dL_law_812 : decode cL_law 812 = .ok (.iconst 1, 1) := by decide +kernel
theorem dL_law_813 : decode cL_law 813 = .ok (.iadd, 1) := by decide +kernel
theorem dL_law_814 : decode cL_law 814 = .ok (.iaload, 1) := by decide +kernel
theorem dL_law_815 : decode cL_law 815 = .ok (.invokevirtual 117, 3) := by decide +kernel
theorem dL_law_818 : decode cL_law 818 = .ok (.if_icmp .eq 5, 3) := by decide +kernel
theorem dL_law_821 : decode cL_law 821 = .ok (.iconst 0, 1) := by decide +kernel
theorem dL_law_822 : decode cL_law 822 = .ok (.ireturn, 1) := by decide +kernel
theorem dL_law_823 : decode cL_law 823 = .ok (.iinc 3 5, 3) := by decide +kernel
theorem dL_law_826 : decode cL_law 826 = .ok (.goto (-808), 3) := by decide +kernel
theorem dL_law_829 : decode cL_law 829 = .ok (.iconst 1, 1) := by decide +kernel
theorem dL_law_830 : decode cL_law 830 = .ok (.ireturn, 1) := by decide +kernel
