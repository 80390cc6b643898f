theorem dX10_choose_231 : decode cX10_choose 231 = .ok (.getfield 22, 3) := by decide +kernel
theorem dX10_choose_234 : decode cX10_choose 234 = .ok (.iload 6, 2) := by decide +kernel
theorem dX10_choose_236 : decode cX10_choose 236 = .ok (.dup2, 1) := by decide +kernel
theorem dX10_choose_237 : decode cX10_choose 237 = .ok (.iaload, 1) := by decide +kernel
theorem dX10_choose_238 : decode cX10_choose 238 = .ok (.iload 8, 2) := by decide +kernel
theorem dX10_choose_240 : decode cX10_choose 240 = .ok (.isub, 1) := by decide +kernel
theorem dX10_choose_241 : decode cX10_choose 241 = .ok (.iastore, 1) := by decide +kernel
theorem dX10_choose_242 : decode cX10_choose 242 = .ok (.iinc 7 1, 3) := by decide +kernel
theorem dX10_choose_245 : decode cX10_choose 245 = .ok (.goto (-166), 3) := by decide +kernel
theorem dX10_choose_248 : decode cX10_choose 248 = .ok (.return_, 1) := by decide +kernel
theorem dX11_init_0 : decode cX11_init 0 = .ok (.aload_n 0, 1) := by decide +kernel
theorem dX11_init_1 : decode cX11_init 1 = .ok (.invokespecial 3, 3) := by decide +kernel
theorem dX11_init_4 : decode cX11_init 4 = .ok (.aload_n 0, 1) := by decide +kernel
theorem dX11_init_5 : decode cX11_init 5 = .ok (.new 9, 3) := by decide +kernel
theorem dX11_init_8 : decode cX11_init 8 = .ok (.dup, 1) := by decide +kernel
theorem dX11_init_9 : decode cX11_init 9 = .ok (.invokespecial 11, 3) := by decide +kernel
theorem dX11_init_12 : decode cX11_init 12 = .ok (.putfield 12, 3) := by decide +kernel
theorem dX11_init_15 : decode cX11_init 15 = .ok (.aload_n 0, 1) := by decide +kernel
theorem dX11_init_16 : decode cX11_init 16 = .ok (.new 16, 3) := by decide +kernel
theorem dX11_init_19 : decode cX11_init 19 = .ok (.dup, 1) := by decide +kernel
theorem dX11_init_20 : decode cX11_init 20 = .ok (.invokespecial 18, 3) := by decide +kernel
theorem dX11_init_23 : decode cX11_init 23 = .ok (.putfield 19, 3) := by decide +kernel
theorem dX11_init_26 : decode cX11_init 26 = .ok (.aload_n 0, 1) := by decide +kernel
theorem dX11_init_27 : decode cX11_init 27 = .ok (.new 23, 3) := by decide +kernel
theorem dX11_init_30 : decode cX11_init 30 = .ok (.dup, 1) := by decide +kernel
theorem dX11_init_31 : decode cX11_init 31 = .ok (.invokespecial 25, 3) := by decide +kernel
theorem dX11_init_34 : decode cX11_init 34 = .ok (.putfield 26, 3) := by decide +kernel
theorem dX11_init_37 : decode cX11_init 37 = .ok (.aload_n 0, 1) := by decide +kernel
theorem dX11_init_38 : decode cX11_init 38 = .ok (.new 30, 3) := by decide +kernel
theorem dX11_init_41 : decode cX11_init 41 = .ok (.dup, 1) := by decide +kernel
theorem dX11_init_42 : decode cX11_init 42 = .ok (.invokespecial 32, 3) := by decide +kernel
theorem dX11_init_45 : decode cX11_init 45 = .ok (.putfield 33, 3) := by decide +kernel
theorem dX11_init_48 : decode cX11_init 48 = .ok (.aload_n 0, 1) := by decide +kernel
theorem dX11_init_49 : decode cX11_init 49 = .ok (.new 37, 3) := by decide +kernel
theorem dX11_init_52 : decode cX11_init 52 = .ok (.dup, 1) := by decide +kernel
theorem dX11_init_53 : decode cX11_init 53 = .ok (.aload_n 0, 1) := by decide +kernel
theorem dX11_init_54 : decode cX11_init 54 = .ok (.getfield 12, 3) := by decide +kernel
theorem dX11_init_57 : decode cX11_init 57 = .ok (.aload_n 0, 1) := by decide +kernel
theorem dX11_init_58 : decode cX11_init 58 = .ok (.getfield 26, 3) := by decide +kernel
theorem dX11_init_61 : decode cX11_init 61 = .ok (.invokespecial 39, 3) := by decide +kernel
theorem dX11_init_64 : decode cX11_init 64 = .ok (.putfield 42, 3) := by decide +kernel
theorem dX11_init_67 : decode cX11_init 67 = .ok (.aload_n 0, 1) := by decide +kernel
theorem dX11_init_68 : decode cX11_init 68 = .ok (.new 46, 3) := by decide +kernel
theorem dX11_init_71 : decode cX11_init 71 = .ok (.dup, 1) := by decide +kernel
theorem dX11_init_72 : decode cX11_init 72 = .ok (.aload_n 0, 1) := by decide +kernel
theorem dX11_init_73 : decode cX11_init 73 = .ok (.getfield 12, 3) := by decide +kernel
theorem dX11_init_76 : decode cX11_init 76 = .ok (.aload_n 0, 1) := by decide +kernel
theorem dX11_init_77 : decode cX11_init 77 = .ok (.getfield 19, 3) := by decide +kernel
theorem dX11_init_80 : decode cX11_init 80 = .ok (.aload_n 0, 1) := by decide +kernel
theorem dX11_init_81 : decode cX11_init 81 = .ok (.getfield 26, 3) := by decide +kernel
theorem dX11_init_84 : decode cX11_init 84 = .ok (.aload_n 0, 1) := by decide +kernel
theorem dX11_init_85 : decode cX11_init 85 = .ok (.getfield 42, 3) := by decide +kernel
theorem dX11_init_88 : decode cX11_init 88 = .ok (.invokespecial 48, 3) := by decide +kernel
theorem dX11_init_91 : decode cX11_init 91 = .ok (.putfield 51, 3) := by decide +kernel
theorem dX11_init_94 : decode cX11_init 94 = .ok (.aload_n 0, 1) := by decide +kernel
theorem dX11_init_95 : decode cX11_init 95 = .ok (.new 55, 3) := by decide +kernel
theorem dX11_init_98 : decode cX11_init 98 = .ok (.dup, 1) := by decide +kernel
theorem dX11_init_99 : decode cX11_init 99 = .ok (.invokespecial 57, 3) := by decide +kernel
theorem dX11_init_102 : decode cX11_init 102 = .ok (.putfield 58, 3) := by decide +kernel
theorem dX11_init_105 : decode cX11_init 105 = .ok (.aload_n 0, 1) := by decide +kernel
theorem dX11_init_106 : decode cX11_init 106 = .ok (.new 62, 3) := by decide +kernel
theorem dX11_init_109 : decode cX11_init 109 = .ok (.dup, 1) := by decide +kernel
theorem dX11_init_110 : decode cX11_init 110 = .ok (.invokespecial 64, 3) := by decide +kernel
theorem dX11_init_113 : decode cX11_init 113 = .ok (.putfield 65, 3) := by decide +kernel
theorem dX11_init_116 : decode cX11_init 116 = .ok (.aload_n 0, 1) := by decide +kernel
theorem dX11_init_117 : decode cX11_init 117 = .ok (.new 69, 3) := by decide +kernel
theorem dX11_init_120 : decode cX11_init 120 = .ok (.dup, 1) := by decide +kernel
theorem dX11_init_121 : decode cX11_init 121 = .ok (.invokespecial 71, 3) := by decide +kernel
theorem dX11_init_124 : decode cX11_init 124 = .ok (.putfield 72, 3) := by decide +kernel
theorem dX11_init_127 : decode cX11_init 127 = .ok (.aload_n 0, 1) := by decide +kernel
theorem dX11_init_128 : decode cX11_init 128 = .ok (.new 76, 3) := by decide +kernel
theorem dX11_init_131 : decode cX11_init 131 = .ok (.dup, 1) := by decide +kernel
theorem dX11_init_132 : decode cX11_init 132 = .ok (.aload_n 0, 1) := by decide +kernel
theorem dX11_init_133 : decode cX11_init 133 = .ok (.getfield 12, 3) := by decide +kernel
theorem dX11_init_136 : decode cX11_init 136 = .ok (.aload_n 0, 1) := by decide +kernel
theorem dX11_init_137 : decode cX11_init 137 = .ok (.getfield 19, 3) := by decide +kernel
theorem dX11_init_140 : decode cX11_init 140 = .ok (.aload_n 0, 1) := by decide +kernel
theorem dX11_init_141 : decode cX11_init 141 = .ok (.getfield 26, 3) := by decide +kernel
theorem dX11_init_144 : decode cX11_init 144 = .ok (.invokespecial 78, 3) := by decide +kernel
theorem dX11_init_147 : decode cX11_init 147 = .ok (.putfield 81, 3) := by decide +kernel
theorem dX11_init_150 : decode cX11_init 150 = .ok (.aload_n 0, 1) := by decide +kernel
theorem dX11_init_151 : decode cX11_init 151 = .ok (.bipush 6, 2) := by decide +kernel
theorem dX11_init_153 : decode cX11_init 153 = .ok (.newarray .int, 2) := by decide +kernel
theorem dX11_init_155 : decode cX11_init 155 = .ok (.putfield 85, 3) := by decide +kernel
theorem dX11_init_158 : decode cX11_init 158 = .ok (.aload_n 0, 1) := by decide +kernel
theorem dX11_init_159 : decode cX11_init 159 = .ok (.iconst 0, 1) := by decide +kernel
theorem dX11_init_160 : decode cX11_init 160 = .ok (.putfield 89, 3) := by decide +kernel
theorem dX11_init_163 : decode cX11_init 163 = .ok (.return_, 1) := by decide +kernel
theorem dX11_decision_0 : decode cX11_decision 0 = .ok (.iload_n 1, 1) := by decide +kernel
theorem dX11_decision_1 : decode cX11_decision 1 = .ok (.iconst 0, 1) := by decide +kernel
theorem dX11_decision_2 : decode cX11_decision 2 = .ok (.iconst 5, 1) := by decide +kernel
theorem dX11_decision_3 : decode cX11_decision 3 = .ok (.invokestatic 93, 3) := by decide +kernel
theorem dX11_decision_6 : decode cX11_decision 6 = .ok (.ifCond .eq 12, 3) := by decide +kernel
theorem dX11_decision_9 : decode cX11_decision 9 = .ok (.iload_n 2, 1) := by decide +kernel
theorem dX11_decision_10 : decode cX11_decision 10 = .ok (.iconst 0, 1) := by decide +kernel
theorem dX11_decision_11 : decode cX11_decision 11 = .ok (.iconst 5, 1) := by decide +kernel
theorem dX11_decision_12 : decode cX11_decision 12 = .ok (.invokestatic 93, 3) := by decide +kernel
theorem dX11_decision_15 : decode cX11_decision 15 = .ok (.ifCond .ne 6, 3) := by decide +kernel
theorem dX11_decision_18 : decode cX11_decision 18 = .ok (.bipush (-2), 2) := by decide +kernel
theorem dX11_decision_20 : decode cX11_decision 20 = .ok (.ireturn, 1) := by decide +kernel
theorem dX11_decision_21 : decode cX11_decision 21 = .ok (.iload_n 1, 1) := by decide +kernel
theorem dX11_decision_22 : decode cX11_decision 22 = .ok (.iload_n 2, 1) := by decide +kernel
theorem dX11_decision_23 : decode cX11_decision 23 = .ok (.if_icmp .gt 12, 3) := by decide +kernel
theorem dX11_decision_26 : decode cX11_decision 26 = .ok (.iload_n 3, 1) := by decide +kernel
theorem dX11_decision_27 : decode cX11_decision 27 = .ok (.iconst 0, 1) := by decide +kernel
theorem dX11_decision_28 : decode cX11_decision 28 = .ok (.iconst 3, 1) := by decide +kernel
theorem dX11_decision_29 : decode cX11_decision 29 = .ok (.invokestatic 93, 3) := by decide +kernel
theorem dX11_decision_32 : decode cX11_decision 32 = .ok (.ifCond .ne 6, 3) := by decide +kernel
theorem dX11_decision_35 : decode cX11_decision 35 = .ok (.bipush (-2), 2) := by decide +kernel
theorem dX11_decision_37 : decode cX11_decision 37 = .ok (.ireturn, 1) := by decide +kernel
theorem dX11_decision_38 : decode cX11_decision 38 = .ok (.aload_n 0, 1) := by decide +kernel
theorem dX11_decision_39 : decode cX11_decision 39 = .ok (.getfield 26, 3) := by decide +kernel
theorem dX11_decision_42 : decode cX11_decision 42 = .ok (.getfield 97, 3) := by decide +kernel
theorem dX11_decision_45 : decode cX11_decision 45 = .ok (.ifCond .le 6, 3) := by decide +kernel
theorem dX11_decision_48 : decode cX11_decision 48 = .ok (.bipush (-3), 2) := by decide +kernel
theorem dX11_decision_50 : decode cX11_decision 50 = .ok (.ireturn, 1) := by decide +kernel
theorem dX11_decision_51 : decode cX11_decision 51 = .ok (.aload_n 0, 1) := by decide +kernel
theorem dX11_decision_52 : decode cX11_decision 52 = .ok (.getfield 12, 3) := by decide +kernel
theorem dX11_decision_55 : decode cX11_decision 55 = .ok (.getfield 101, 3) := by decide +kernel
theorem dX11_decision_58 : decode cX11_decision 58 = .ok (.bipush 6, 2) := by decide +kernel
theorem dX11_decision_60 : decode cX11_decision 60 = .ok (.if_icmp .lt 6, 3) := by decide +kernel
theorem dX11_decision_63 : decode cX11_decision 63 = .ok (.bipush (-4), 2) := by decide +kernel
theorem dX11_decision_65 : decode cX11_decision 65 = .ok (.ireturn, 1) := by decide +kernel
theorem dX11_decision_66 : decode cX11_decision 66 = .ok (.aload_n 0, 1) := by decide +kernel
theorem dX11_decision_67 : decode cX11_decision 67 = .ok (.getfield 12, 3) := by decide +kernel
theorem dX11_decision_70 : decode cX11_decision 70 = .ok (.iload_n 1, 1) := by decide +kernel
theorem dX11_decision_71 : decode cX11_decision 71 = .ok (.iload_n 2, 1) := by decide +kernel
theorem dX11_decision_72 : decode cX11_decision 72 = .ok (.iload_n 3, 1) := by decide +kernel
theorem dX11_decision_73 : decode cX11_decision 73 = .ok (.invokevirtual 102, 3) := by decide +kernel
theorem dX11_decision_76 : decode cX11_decision 76 = .ok (.istore 4, 2) := by decide +kernel
theorem dX11_decision_78 : decode cX11_decision 78 = .ok (.aload_n 0, 1) := by decide +kernel
theorem dX11_decision_79 : decode cX11_decision 79 = .ok (.getfield 85, 3) := by decide +kernel
theorem dX11_decision_82 : decode cX11_decision 82 = .ok (.iload 4, 2) := by decide +kernel
theorem dX11_decision_84 : decode cX11_decision 84 = .ok (.iload_n 1, 1) := by decide +kernel
theorem dX11_decision_85 : decode cX11_decision 85 = .ok (.iastore, 1) := by decide +kernel
theorem dX11_decision_86 : decode cX11_decision 86 = .ok (.iload 4, 2) := by decide +kernel
theorem dX11_decision_88 : decode cX11_decision 88 = .ok (.ireturn, 1) := by decide +kernel
theorem dX11_weight_0 : decode cX11_weight 0 = .ok (.aload_n 0, 1) := by decide +kernel
theorem dX11_weight_1 : decode cX11_weight 1 = .ok (.getfield 12, 3) := by decide +kernel
theorem dX11_weight_4 : decode cX11_weight 4 = .ok (.iload_n 1, 1) := by decide +kernel
theorem dX11_weight_5 : decode cX11_weight 5 = .ok (.invokevirtual 106, 3) := by decide +kernel
theorem dX11_weight_8 : decode cX11_weight 8 = .ok (.ifCond .ne 5, 3) := by decide +kernel
theorem dX11_weight_11 : decode cX11_weight 11 = .ok (.iconst (-1), 1) := by decide +kernel
theorem dX11_weight_12 : decode cX11_weight 12 = .ok (.ireturn, 1) := by decide +kernel
theorem dX11_weight_13 : decode cX11_weight 13 = .ok (.iload_n 2, 1) := by decide +kernel
theorem dX11_weight_14 : decode cX11_weight 14 = .ok (.iconst 0, 1) := by decide +kernel
theorem dX11_weight_15 : decode cX11_weight 15 = .ok (.bipush 100, 2) := by decide +kernel
theorem dX11_weight_17 : decode cX11_weight 17 = .ok (.invokestatic 93, 3) := by decide +kernel
theorem dX11_weight_20 : decode cX11_weight 20 = .ok (.ifCond .eq 13, 3) := by decide +kernel
theorem dX11_weight_23 : decode cX11_weight 23 = .ok (.iload_n 3, 1) := by decide +kernel
theorem dX11_weight_24 : decode cX11_weight 24 = .ok (.iconst 0, 1) := by decide +kernel
theorem dX11_weight_25 : decode cX11_weight 25 = .ok (.bipush 20, 2) := by decide +kernel
theorem dX11_weight_27 : decode cX11_weight 27 = .ok (.invokestatic 93, 3) := by decide +kernel
theorem dX11_weight_30 : decode cX11_weight 30 = .ok (.ifCond .ne 6, 3) := by decide +kernel
theorem dX11_weight_33 : decode cX11_weight 33 = .ok (.bipush (-2), 2) := by decide +kernel
theorem dX11_weight_35 : decode cX11_weight 35 = .ok (.ireturn, 1) := by decide +kernel
theorem dX11_weight_36 : decode cX11_weight 36 = .ok (.aload_n 0, 1) := by decide +kernel
theorem dX11_weight_37 : decode cX11_weight 37 = .ok (.getfield 12, 3) := by decide +kernel
theorem dX11_weight_40 : decode cX11_weight 40 = .ok (.getfield 110, 3) := by decide +kernel
theorem dX11_weight_43 : decode cX11_weight 43 = .ok (.iload_n 1, 1) := by decide +kernel
theorem dX11_weight_44 : decode cX11_weight 44 = .ok (.iload_n 2, 1) := by decide +kernel
theorem dX11_weight_45 : decode cX11_weight 45 = .ok (.iastore, 1) := by decide +kernel
theorem dX11_weight_46 : decode cX11_weight 46 = .ok (.aload_n 0, 1) := by decide +kernel
theorem dX11_weight_47 : decode cX11_weight 47 = .ok (.getfield 12, 3) := by decide +kernel
theorem dX11_weight_50 : decode cX11_weight 50 = .ok (.getfield 113, 3) := by decide +kernel
theorem dX11_weight_53 : decode cX11_weight 53 = .ok (.iload_n 1, 1) := by decide +kernel
theorem dX11_weight_54 : decode cX11_weight 54 = .ok (.iload_n 3, 1) := by decide +kernel
theorem dX11_weight_55 : decode cX11_weight 55 = .ok (.iastore, 1) := by decide +kernel
theorem dX11_weight_56 : decode cX11_weight 56 = .ok (.iconst 1, 1) := by decide +kernel
theorem dX11_weight_57 : decode cX11_weight 57 = .ok (.ireturn, 1) := by decide +kernel
theorem dX11_worth_0 : decode cX11_worth 0 = .ok (.aload_n 0, 1) := by decide +kernel
theorem dX11_worth_1 : decode cX11_worth 1 = .ok (.getfield 12, 3) := by decide +kernel
theorem dX11_worth_4 : decode cX11_worth 4 = .ok (.iload_n 1, 1) := by decide +kernel
theorem dX11_worth_5 : decode cX11_worth 5 = .ok (.invokevirtual 106, 3) := by decide +kernel
theorem dX11_worth_8 : decode cX11_worth 8 = .ok (.ifCond .ne 5, 3) := by decide +kernel
theorem dX11_worth_11 : decode cX11_worth 11 = .ok (.iconst (-1), 1) := by decide +kernel
theorem dX11_worth_12 : decode cX11_worth 12 = .ok (.ireturn, 1) := by decide +kernel
theorem dX11_worth_13 : decode cX11_worth 13 = .ok (.iload_n 2, 1) := by decide +kernel
theorem dX11_worth_14 : decode cX11_worth 14 = .ok (.iconst 0, 1) := by decide +kernel
theorem dX11_worth_15 : decode cX11_worth 15 = .ok (.iconst 5, 1) := by decide +kernel
theorem dX11_worth_16 : decode cX11_worth 16 = .ok (.invokestatic 93, 3) := by decide +kernel
theorem dX11_worth_19 : decode cX11_worth 19 = .ok (.ifCond .eq 13, 3) := by decide +kernel
theorem dX11_worth_22 : decode cX11_worth 22 = .ok (.iload_n 3, 1) := by decide +kernel
theorem dX11_worth_23 : decode cX11_worth 23 = .ok (.iconst 0, 1) := by decide +kernel
theorem dX11_worth_24 : decode cX11_worth 24 = .ok (.bipush 100, 2) := by decide +kernel
theorem dX11_worth_26 : decode cX11_worth 26 = .ok (.invokestatic 93, 3) := by decide +kernel
theorem dX11_worth_29 : decode cX11_worth 29 = .ok (.ifCond .ne 6, 3) := by decide +kernel
theorem dX11_worth_32 : decode cX11_worth 32 = .ok (.bipush (-2), 2) := by decide +kernel
theorem dX11_worth_34 : decode cX11_worth 34 = .ok (.ireturn, 1) := by decide +kernel
theorem dX11_worth_35 : decode cX11_worth 35 = .ok (.aload_n 0, 1) := by decide +kernel
theorem dX11_worth_36 : decode cX11_worth 36 = .ok (.getfield 12, 3) := by decide +kernel
theorem dX11_worth_39 : decode cX11_worth 39 = .ok (.getfield 116, 3) := by decide +kernel
theorem dX11_worth_42 : decode cX11_worth 42 = .ok (.iload_n 1, 1) := by decide +kernel
theorem dX11_worth_43 : decode cX11_worth 43 = .ok (.aaload, 1) := by decide +kernel
theorem dX11_worth_44 : decode cX11_worth 44 = .ok (.iload_n 2, 1) := by decide +kernel
theorem dX11_worth_45 : decode cX11_worth 45 = .ok (.iaload, 1) := by decide +kernel
theorem dX11_worth_46 : decode cX11_worth 46 = .ok (.istore 4, 2) := by decide +kernel
theorem dX11_worth_48 : decode cX11_worth 48 = .ok (.aload_n 0, 1) := by decide +kernel
theorem dX11_worth_49 : decode cX11_worth 49 = .ok (.getfield 12, 3) := by decide +kernel
theorem dX11_worth_52 : decode cX11_worth 52 = .ok (.getfield 116, 3) := by decide +kernel
theorem dX11_worth_55 : decode cX11_worth 55 = .ok (.iload_n 1, 1) := by decide +kernel
theorem dX11_worth_56 : decode cX11_worth 56 = .ok (.aaload, 1) := by decide +kernel
theorem dX11_worth_57 : decode cX11_worth 57 = .ok (.iload_n 2, 1) := by decide +kernel
theorem dX11_worth_58 : decode cX11_worth 58 = .ok (.iload_n 3, 1) := by decide +kernel
theorem dX11_worth_59 : decode cX11_worth 59 = .ok (.iastore, 1) := by decide +kernel
theorem dX11_worth_60 : decode cX11_worth 60 = .ok (.iload 4, 2) := by decide +kernel
theorem dX11_worth_62 : decode cX11_worth 62 = .ok (.ireturn, 1) := by decide +kernel
theorem dX11_pin_0 : decode cX11_pin 0 = .ok (.aload_n 0, 1) := by decide +kernel
theorem dX11_pin_1 : decode cX11_pin 1 = .ok (.getfield 12, 3) := by decide +kernel
theorem dX11_pin_4 : decode cX11_pin 4 = .ok (.iload_n 1, 1) := by decide +kernel
theorem dX11_pin_5 : decode cX11_pin 5 = .ok (.invokevirtual 106, 3) := by decide +kernel
theorem dX11_pin_8 : decode cX11_pin 8 = .ok (.ifCond .ne 5, 3) := by decide +kernel
theorem dX11_pin_11 : decode cX11_pin 11 = .ok (.iconst (-1), 1) := by decide +kernel
theorem dX11_pin_12 : decode cX11_pin 12 = .ok (.ireturn, 1) := by decide +kernel
theorem dX11_pin_13 : decode cX11_pin 13 = .ok (.iload_n 2, 1) := by decide +kernel
theorem dX11_pin_14 : decode cX11_pin 14 = .ok (.bipush (-5), 2) := by decide +kernel
theorem dX11_pin_16 : decode cX11_pin 16 = .ok (.if_icmp .eq 18, 3) := by decide +kernel
theorem dX11_pin_19 : decode cX11_pin 19 = .ok (.aload_n 0, 1) := by decide +kernel
theorem dX11_pin_20 : decode cX11_pin 20 = .ok (.getfield 12, 3) := by decide +kernel
theorem dX11_pin_23 : decode cX11_pin 23 = .ok (.iload_n 1, 1) := by decide +kernel
theorem dX11_pin_24 : decode cX11_pin 24 = .ok (.iload_n 2, 1) := by decide +kernel
theorem dX11_pin_25 : decode cX11_pin 25 = .ok (.invokevirtual 120, 3) := by decide +kernel
theorem dX11_pin_28 : decode cX11_pin 28 = .ok (.ifCond .ne 6, 3) := by decide +kernel
theorem dX11_pin_31 : decode cX11_pin 31 = .ok (.bipush (-2), 2) := by decide +kernel
theorem dX11_pin_33 : decode cX11_pin 33 = .ok (.ireturn, 1) := by decide +kernel
theorem dX11_pin_34 : decode cX11_pin 34 = .ok (.aload_n 0, 1) := by decide +kernel
theorem dX11_pin_35 : decode cX11_pin 35 = .ok (.getfield 12, 3) := by decide +kernel
theorem dX11_pin_38 : decode cX11_pin 38 = .ok (.getfield 124, 3) := by decide +kernel
theorem dX11_pin_41 : decode cX11_pin 41 = .ok (.iload_n 1, 1) := by decide +kernel
theorem dX11_pin_42 : decode cX11_pin 42 = .ok (.iload_n 2, 1) := by decide +kernel
theorem dX11_pin_43 : decode cX11_pin 43 = .ok (.iastore, 1) := by decide +kernel
theorem dX11_pin_44 : decode cX11_pin 44 = .ok (.iconst 1, 1) := by decide +kernel
theorem dX11_pin_45 : decode cX11_pin 45 = .ok (.ireturn, 1) := by decide +kernel
theorem dX11_limit_0 : decode cX11_limit 0 = .ok (.iload_n 1, 1) := by decide +kernel
theorem dX11_limit_1 : decode cX11_limit 1 = .ok (.iconst 0, 1) := by decide +kernel
theorem dX11_limit_2 : decode cX11_limit 2 = .ok (.iconst 3, 1) := by decide +kernel
theorem dX11_limit_3 : decode cX11_limit 3 = .ok (.invokestatic 93, 3) := by decide +kernel
theorem dX11_limit_6 : decode cX11_limit 6 = .ok (.ifCond .eq 13, 3) := by decide +kernel
theorem dX11_limit_9 : decode cX11_limit 9 = .ok (.iload_n 2, 1) := by decide +kernel
theorem dX11_limit_10 : decode cX11_limit 10 = .ok (.iconst 0, 1) := by decide +kernel
theorem dX11_limit_11 : decode cX11_limit 11 = .ok (.bipush 6, 2) := by decide +kernel
theorem dX11_limit_13 : decode cX11_limit 13 = .ok (.invokestatic 93, 3) := by decide +kernel
theorem dX11_limit_16 : decode cX11_limit 16 = .ok (.ifCond .ne 6, 3) := by decide +kernel
theorem dX11_limit_19 : decode cX11_limit 19 = .ok (.bipush (-2), 2) := by decide +kernel
theorem dX11_limit_21 : decode cX11_limit 21 = .ok (.ireturn, 1) := by decide +kernel
theorem dX11_limit_22 : decode cX11_limit 22 = .ok (.aload_n 0, 1) := by decide +kernel
theorem dX11_limit_23 : decode cX11_limit 23 = .ok (.getfield 12, 3) := by decide +kernel
theorem dX11_limit_26 : decode cX11_limit 26 = .ok (.getfield 127, 3) := by decide +kernel
theorem dX11_limit_29 : decode cX11_limit 29 = .ok (.iload_n 1, 1) := by decide +kernel
theorem dX11_limit_30 : decode cX11_limit 30 = .ok (.iaload, 1) := by decide +kernel
theorem dX11_limit_31 : decode cX11_limit 31 = .ok (.istore_n 3, 1) := by decide +kernel
theorem dX11_limit_32 : decode cX11_limit 32 = .ok (.aload_n 0, 1) := by decide +kernel
theorem dX11_limit_33 : decode cX11_limit 33 = .ok (.getfield 12, 3) := by decide +kernel
theorem dX11_limit_36 : decode cX11_limit 36 = .ok (.getfield 127, 3) := by decide +kernel
theorem dX11_limit_39 : decode cX11_limit 39 = .ok (.iload_n 1, 1) := by decide +kernel
theorem dX11_limit_40 : decode cX11_limit 40 = .ok (.iload_n 2, 1) := by decide +kernel
theorem dX11_limit_41 : decode cX11_limit 41 = .ok (.iastore, 1) := by decide +kernel
theorem dX11_limit_42 : decode cX11_limit 42 = .ok (.iload_n 3, 1) := by decide +kernel
theorem dX11_limit_43 : decode cX11_limit 43 = .ok (.ireturn, 1) := by decide +kernel
theorem dX11_fact_0 : decode cX11_fact 0 = .ok (.iload_n 1, 1) := by decide +kernel
theorem dX11_fact_1 : decode cX11_fact 1 = .ok (.bipush (-20), 2) := by decide +kernel
theorem dX11_fact_3 : decode cX11_fact 3 = .ok (.bipush 20, 2) := by decide +kernel
theorem dX11_fact_5 : decode cX11_fact 5 = .ok (.invokestatic 93, 3) := by decide +kernel
theorem dX11_fact_8 : decode cX11_fact 8 = .ok (.ifCond .ne 6, 3) := by decide +kernel
theorem dX11_fact_11 : decode cX11_fact 11 = .ok (.bipush (-2), 2) := by decide +kernel
theorem dX11_fact_13 : decode cX11_fact 13 = .ok (.ireturn, 1) := by decide +kernel
theorem dX11_fact_14 : decode cX11_fact 14 = .ok (.aload_n 0, 1) := by decide +kernel
theorem dX11_fact_15 : decode cX11_fact 15 = .ok (.getfield 26, 3) := by decide +kernel
theorem dX11_fact_18 : decode cX11_fact 18 = .ok (.getfield 97, 3) := by decide +kernel
theorem dX11_fact_21 : decode cX11_fact 21 = .ok (.ifCond .le 6, 3) := by decide +kernel
theorem dX11_fact_24 : decode cX11_fact 24 = .ok (.bipush (-3), 2) := by decide +kernel
theorem dX11_fact_26 : decode cX11_fact 26 = .ok (.ireturn, 1) := by decide +kernel
theorem dX11_fact_27 : decode cX11_fact 27 = .ok (.aload_n 0, 1) := by decide +kernel
theorem dX11_fact_28 : decode cX11_fact 28 = .ok (.getfield 19, 3) := by decide +kernel
theorem dX11_fact_31 : decode cX11_fact 31 = .ok (.getfield 130, 3) := by decide +kernel
theorem dX11_fact_34 : decode cX11_fact 34 = .ok (.bipush 6, 2) := by decide +kernel
theorem dX11_fact_36 : decode cX11_fact 36 = .ok (.if_icmp .lt 6, 3) := by decide +kernel
theorem dX11_fact_39 : decode cX11_fact 39 = .ok (.bipush (-4), 2) := by decide +kernel
theorem dX11_fact_41 : decode cX11_fact 41 = .ok (.ireturn, 1) := by decide +kernel
theorem dX11_fact_42 : decode cX11_fact 42 = .ok (.aload_n 0, 1) := by decide +kernel
theorem dX11_fact_43 : decode cX11_fact 43 = .ok (.getfield 19, 3) := by decide +kernel
theorem dX11_fact_46 : decode cX11_fact 46 = .ok (.iload_n 1, 1) := by decide +kernel
theorem dX11_fact_47 : decode cX11_fact 47 = .ok (.invokevirtual 133, 3) := by decide +kernel
theorem dX11_fact_50 : decode cX11_fact 50 = .ok (.ireturn, 1) := by decide +kernel
theorem dX11_change_0 : decode cX11_change 0 = .ok (.aload_n 0, 1) := by decide +kernel
theorem dX11_change_1 : decode cX11_change 1 = .ok (.getfield 19, 3) := by decide +kernel
theorem dX11_change_4 : decode cX11_change 4 = .ok (.iload_n 1, 1) := by decide +kernel
theorem dX11_change_5 : decode cX11_change 5 = .ok (.invokevirtual 137, 3) := by decide +kernel
theorem dX11_change_8 : decode cX11_change 8 = .ok (.ifCond .ne 5, 3) := by decide +kernel
theorem dX11_change_11 : decode cX11_change 11 = .ok (.iconst (-1), 1) := by decide +kernel
theorem dX11_change_12 : decode cX11_change 12 = .ok (.ireturn, 1) := by decide +kernel
theorem dX11_change_13 : decode cX11_change 13 = .ok (.iload_n 2, 1) := by decide +kernel
theorem dX11_change_14 : decode cX11_change 14 = .ok (.bipush (-20), 2) := by decide +kernel
theorem dX11_change_16 : decode cX11_change 16 = .ok (.bipush 20, 2) := by decide +kernel
theorem dX11_change_18 : decode cX11_change 18 = .ok (.invokestatic 93, 3) := by decide +kernel
theorem dX11_change_21 : decode cX11_change 21 = .ok (.ifCond .ne 6, 3) := by decide +kernel
theorem dX11_change_24 : decode cX11_change 24 = .ok (.bipush (-2), 2) := by decide +kernel
theorem dX11_change_26 : decode cX11_change 26 = .ok (.ireturn, 1) := by decide +kernel
theorem dX11_change_27 : decode cX11_change 27 = .ok (.aload_n 0, 1) := by decide +kernel
theorem dX11_change_28 : decode cX11_change 28 = .ok (.getfield 19, 3) := by decide +kernel
theorem dX11_change_31 : decode cX11_change 31 = .ok (.getfield 140, 3) := by decide +kernel
theorem dX11_change_34 : decode cX11_change 34 = .ok (.iload_n 1, 1) := by decide +kernel
theorem dX11_change_35 : decode cX11_change 35 = .ok (.iaload, 1) := by decide +kernel
theorem dX11_change_36 : decode cX11_change 36 = .ok (.istore_n 3, 1) := by decide +kernel
theorem dX11_change_37 : decode cX11_change 37 = .ok (.aload_n 0, 1) := by decide +kernel
theorem dX11_change_38 : decode cX11_change 38 = .ok (.getfield 19, 3) := by decide +kernel
theorem dX11_change_41 : decode cX11_change 41 = .ok (.getfield 140, 3) := by decide +kernel
theorem dX11_change_44 : decode cX11_change 44 = .ok (.iload_n 1, 1) := by decide +kernel
theorem dX11_change_45 : decode cX11_change 45 = .ok (.iload_n 2, 1) := by decide +kernel
theorem dX11_change_46 : decode cX11_change 46 = .ok (.iastore, 1) := by decide +kernel
theorem dX11_change_47 : decode cX11_change 47 = .ok (.iload_n 3, 1) := by decide +kernel
theorem dX11_change_48 : decode cX11_change 48 = .ok (.ireturn, 1) := by decide +kernel
theorem dX11_rule_0 : decode cX11_rule 0 = .ok (.iload_n 1, 1) := by decide +kernel
theorem dX11_rule_1 : decode cX11_rule 1 = .ok (.iconst 0, 1) := by decide +kernel
theorem dX11_rule_2 : decode cX11_rule 2 = .ok (.iconst 5, 1) := by decide +kernel
theorem dX11_rule_3 : decode cX11_rule 3 = .ok (.invokestatic 93, 3) := by decide +kernel
theorem dX11_rule_6 : decode cX11_rule 6 = .ok (.ifCond .ne 6, 3) := by decide +kernel
theorem dX11_rule_9 : decode cX11_rule 9 = .ok (.bipush (-2), 2) := by decide +kernel
theorem dX11_rule_11 : decode cX11_rule 11 = .ok (.ireturn, 1) := by decide +kernel
theorem dX11_rule_12 : decode cX11_rule 12 = .ok (.iload_n 1, 1) := by decide +kernel
theorem dX11_rule_13 : decode cX11_rule 13 = .ok (.iconst 5, 1) := by decide +kernel
theorem dX11_rule_14 : decode cX11_rule 14 = .ok (.if_icmp .ne 15, 3) := by decide +kernel
theorem dX11_rule_17 : decode cX11_rule 17 = .ok (.iload_n 3, 1) := by decide +kernel
theorem dX11_rule_18 : decode cX11_rule 18 = .ok (.iconst 0, 1) := by decide +kernel
theorem dX11_rule_19 : decode cX11_rule 19 = .ok (.iconst 5, 1) := by decide +kernel
theorem dX11_rule_20 : decode cX11_rule 20 = .ok (.invokestatic 93, 3) := by decide +kernel
theorem dX11_rule_23 : decode cX11_rule 23 = .ok (.ifCond .ne 6, 3) := by decide +kernel
theorem dX11_rule_26 : decode cX11_rule 26 = .ok (.bipush (-2), 2) := by decide +kernel
theorem dX11_rule_28 : decode cX11_rule 28 = .ok (.ireturn, 1) := by decide +kernel
theorem dX11_rule_29 : decode cX11_rule 29 = .ok (.iload_n 1, 1) := by decide +kernel
theorem dX11_rule_30 : decode cX11_rule 30 = .ok (.iconst 5, 1) := by decide +kernel
theorem dX11_rule_31 : decode cX11_rule 31 = .ok (.if_icmp .eq 27, 3) := by decide +kernel
theorem dX11_rule_34 : decode cX11_rule 34 = .ok (.aload_n 0, 1) := by decide +kernel
theorem dX11_rule_35 : decode cX11_rule 35 = .ok (.getfield 12, 3) := by decide +kernel
theorem dX11_rule_38 : decode cX11_rule 38 = .ok (.iload_n 2, 1) := by decide +kernel
theorem dX11_rule_39 : decode cX11_rule 39 = .ok (.invokevirtual 106, 3) := by decide +kernel
theorem dX11_rule_42 : decode cX11_rule 42 = .ok (.ifCond .eq 14, 3) := by decide +kernel
theorem dX11_rule_45 : decode cX11_rule 45 = .ok (.aload_n 0, 1) := by decide +kernel
theorem dX11_rule_46 : decode cX11_rule 46 = .ok (.getfield 12, 3) := by decide +kernel
theorem dX11_rule_49 : decode cX11_rule 49 = .ok (.iload_n 3, 1) := by decide +kernel
theorem dX11_rule_50 : decode cX11_rule 50 = .ok (.invokevirtual 106, 3) := by decide +kernel
theorem dX11_rule_53 : decode cX11_rule 53 = .ok (.ifCond .ne 5, 3) := by decide +kernel
theorem dX11_rule_56 : decode cX11_rule 56 = .ok (.iconst (-1), 1) := by decide +kernel
theorem dX11_rule_57 : decode cX11_rule 57 = .ok (.ireturn, 1) := by decide +kernel
theorem dX11_rule_58 : decode cX11_rule 58 = .ok (.aload_n 0, 1) := by decide +kernel
theorem dX11_rule_59 : decode cX11_rule 59 = .ok (.getfield 19, 3) := by decide +kernel
theorem dX11_rule_62 : decode cX11_rule 62 = .ok (.iload 4, 2) := by decide +kernel
theorem dX11_rule_64 : decode cX11_rule 64 = .ok (.invokevirtual 137, 3) := by decide +kernel
theorem dX11_rule_67 : decode cX11_rule 67 = .ok (.ifCond .ne 5, 3) := by decide +kernel
theorem dX11_rule_70 : decode cX11_rule 70 = .ok (.iconst (-1), 1) := by decide +kernel
theorem dX11_rule_71 : decode cX11_rule 71 = .ok (.ireturn, 1) := by decide +kernel
theorem dX11_rule_72 : decode cX11_rule 72 = .ok (.aload_n 0, 1) := by decide +kernel
theorem dX11_rule_73 : decode cX11_rule 73 = .ok (.getfield 19, 3) := by decide +kernel
theorem dX11_rule_76 : decode cX11_rule 76 = .ok (.getfield 143, 3) := by decide +kernel
theorem dX11_rule_79 : decode cX11_rule 79 = .ok (.bipush 12, 2) := by decide +kernel
theorem dX11_rule_81 : decode cX11_rule 81 = .ok (.if_icmp .lt 6, 3) := by decide +kernel
theorem dX11_rule_84 : decode cX11_rule 84 = .ok (.bipush (-4), 2) := by decide +kernel
theorem dX11_rule_86 : decode cX11_rule 86 = .ok (.ireturn, 1) := by decide +kernel
theorem dX11_rule_87 : decode cX11_rule 87 = .ok (.aload_n 0, 1) := by decide +kernel
theorem dX11_rule_88 : decode cX11_rule 88 = .ok (.getfield 19, 3) := by decide +kernel
theorem dX11_rule_91 : decode cX11_rule 91 = .ok (.iload_n 1, 1) := by decide +kernel
theorem dX11_rule_92 : decode cX11_rule 92 = .ok (.iload_n 2, 1) := by decide +kernel
theorem dX11_rule_93 : decode cX11_rule 93 = .ok (.iload_n 3, 1) := by decide +kernel
theorem dX11_rule_94 : decode cX11_rule 94 = .ok (.iload 4, 2) := by decide +kernel
theorem dX11_rule_96 : decode cX11_rule 96 = .ok (.invokevirtual 144, 3) := by decide +kernel
theorem dX11_rule_99 : decode cX11_rule 99 = .ok (.ireturn, 1) := by decide +kernel
theorem dX11_first_0 : decode cX11_first 0 = .ok (.iload_n 1, 1) := by decide +kernel
theorem dX11_first_1 : decode cX11_first 1 = .ok (.iconst 0, 1) := by decide +kernel
theorem dX11_first_2 : decode cX11_first 2 = .ok (.iconst 1, 1) := by decide +kernel
theorem dX11_first_3 : decode cX11_first 3 = .ok (.invokestatic 93, 3) := by decide +kernel
theorem dX11_first_6 : decode cX11_first 6 = .ok (.ifCond .ne 6, 3) := by decide +kernel
theorem dX11_first_9 : decode cX11_first 9 = .ok (.bipush (-2), 2) := by decide +kernel
theorem dX11_first_11 : decode cX11_first 11 = .ok (.ireturn, 1) := by decide +kernel
theorem dX11_first_12 : decode cX11_first 12 = .ok (.aload_n 0, 1) := by decide +kernel
theorem dX11_first_13 : decode cX11_first 13 = .ok (.getfield 89, 3) := by decide +kernel
theorem dX11_first_16 : decode cX11_first 16 = .ok (.ifCond .eq 7, 3) := by decide +kernel
theorem dX11_first_19 : decode cX11_first 19 = .ok (.iconst 1, 1) := by decide +kernel
theorem dX11_first_20 : decode cX11_first 20 = .ok (.goto 4, 3) := by decide +kernel
theorem dX11_first_23 : decode cX11_first 23 = .ok (.iconst 0, 1) := by decide +kernel
theorem dX11_first_24 : decode cX11_first 24 = .ok (.istore_n 2, 1) := by decide +kernel
theorem dX11_first_25 : decode cX11_first 25 = .ok (.aload_n 0, 1) := by decide +kernel
theorem dX11_first_26 : decode cX11_first 26 = .ok (.iload_n 1, 1) := by decide +kernel
theorem dX11_first_27 : decode cX11_first 27 = .ok (.iconst 1, 1) := by decide +kernel
theorem dX11_first_28 : decode cX11_first 28 = .ok (.if_icmp .ne 7, 3) := by decide +kernel
theorem dX11_first_31 : decode cX11_first 31 = .ok (.iconst 1, 1) := by decide +kernel
theorem dX11_first_32 : decode cX11_first 32 = .ok (.goto 4, 3) := by decide +kernel
theorem dX11_first_35 : decode cX11_first 35 = .ok (.iconst 0, 1) := by decide +kernel
theorem dX11_first_36 : decode cX11_first 36 = .ok (.putfield 89, 3) := by decide +kernel
theorem dX11_first_39 : decode cX11_first 39 = .ok (.iload_n 2, 1) := by decide +kernel
theorem dX11_first_40 : decode cX11_first 40 = .ok (.ireturn, 1) := by decide +kernel
theorem dX11_put_0 : decode cX11_put 0 = .ok (.aload_n 0, 1) := by decide +kernel
theorem dX11_put_1 : decode cX11_put 1 = .ok (.getfield 12, 3) := by decide +kernel
theorem dX11_put_4 : decode cX11_put 4 = .ok (.iload_n 1, 1) := by decide +kernel
theorem dX11_put_5 : decode cX11_put 5 = .ok (.invokevirtual 106, 3) := by decide +kernel
theorem dX11_put_8 : decode cX11_put 8 = .ok (.ifCond .ne 5, 3) := by decide +kernel
theorem dX11_put_11 : decode cX11_put 11 = .ok (.iconst (-1), 1) := by decide +kernel
theorem dX11_put_12 : decode cX11_put 12 = .ok (.ireturn, 1) := by decide +kernel
theorem dX11_put_13 : decode cX11_put 13 = .ok (.aload_n 0, 1) := by decide +kernel
theorem dX11_put_14 : decode cX11_put 14 = .ok (.getfield 12, 3) := by decide +kernel
theorem dX11_put_17 : decode cX11_put 17 = .ok (.iload_n 1, 1) := by decide +kernel
theorem dX11_put_18 : decode cX11_put 18 = .ok (.iload_n 2, 1) := by decide +kernel
theorem dX11_put_19 : decode cX11_put 19 = .ok (.invokevirtual 120, 3) := by decide +kernel
theorem dX11_put_22 : decode cX11_put 22 = .ok (.ifCond .ne 6, 3) := by decide +kernel
theorem dX11_put_25 : decode cX11_put 25 = .ok (.bipush (-2), 2) := by decide +kernel
theorem dX11_put_27 : decode cX11_put 27 = .ok (.ireturn, 1) := by decide +kernel
theorem dX11_put_28 : decode cX11_put 28 = .ok (.aload_n 0, 1) := by decide +kernel
theorem dX11_put_29 : decode cX11_put 29 = .ok (.getfield 85, 3) := by decide +kernel
theorem dX11_put_32 : decode cX11_put 32 = .ok (.iload_n 1, 1) := by decide +kernel
theorem dX11_put_33 : decode cX11_put 33 = .ok (.iaload, 1) := by decide +kernel
theorem dX11_put_34 : decode cX11_put 34 = .ok (.istore_n 3, 1) := by decide +kernel
theorem dX11_put_35 : decode cX11_put 35 = .ok (.aload_n 0, 1) := by decide +kernel
theorem dX11_put_36 : decode cX11_put 36 = .ok (.getfield 85, 3) := by decide +kernel
theorem dX11_put_39 : decode cX11_put 39 = .ok (.iload_n 1, 1) := by decide +kernel
theorem dX11_put_40 : decode cX11_put 40 = .ok (.iload_n 2, 1) := by decide +kernel
theorem dX11_put_41 : decode cX11_put 41 = .ok (.iastore, 1) := by decide +kernel
theorem dX11_put_42 : decode cX11_put 42 = .ok (.iload_n 3, 1) := by decide +kernel
theorem dX11_put_43 : decode cX11_put 43 = .ok (.ireturn, 1) := by decide +kernel
theorem dX11_value_0 : decode cX11_value 0 = .ok (.aload_n 0, 1) := by decide +kernel
theorem dX11_value_1 : decode cX11_value 1 = .ok (.getfield 12, 3) := by decide +kernel
theorem dX11_value_4 : decode cX11_value 4 = .ok (.iload_n 1, 1) := by decide +kernel
theorem dX11_value_5 : decode cX11_value 5 = .ok (.invokevirtual 106, 3) := by decide +kernel
theorem dX11_value_8 : decode cX11_value 8 = .ok (.ifCond .eq 12, 3) := by decide +kernel
theorem dX11_value_11 : decode cX11_value 11 = .ok (.aload_n 0, 1) := by decide +kernel
theorem dX11_value_12 : decode cX11_value 12 = .ok (.getfield 85, 3) := by decide +kernel
theorem dX11_value_15 : decode cX11_value 15 = .ok (.iload_n 1, 1) := by decide +kernel
theorem dX11_value_16 : decode cX11_value 16 = .ok (.iaload, 1) := by decide +kernel
theorem dX11_value_17 : decode cX11_value 17 = .ok (.goto 4, 3) := by decide +kernel
theorem dX11_value_20 : decode cX11_value 20 = .ok (.iconst (-1), 1) := by decide +kernel
theorem dX11_value_21 : decode cX11_value 21 = .ok (.ireturn, 1) := by decide +kernel
theorem dX11_keep_0 : decode cX11_keep 0 = .ok (.aload_n 0, 1) := by decide +kernel
theorem dX11_keep_1 : decode cX11_keep 1 = .ok (.getfield 12, 3) := by decide +kernel
theorem dX11_keep_4 : decode cX11_keep 4 = .ok (.getfield 101, 3) := by decide +kernel
theorem dX11_keep_7 : decode cX11_keep 7 = .ok (.ifCond .ne 6, 3) := by decide +kernel
theorem dX11_keep_10 : decode cX11_keep 10 = .ok (.bipush (-3), 2) := by decide +kernel
theorem dX11_keep_12 : decode cX11_keep 12 = .ok (.ireturn, 1) := by decide +kernel
theorem dX11_keep_13 : decode cX11_keep 13 = .ok (.aload_n 0, 1) := by decide +kernel
theorem dX11_keep_14 : decode cX11_keep 14 = .ok (.getfield 26, 3) := by decide +kernel
theorem dX11_keep_17 : decode cX11_keep 17 = .ok (.getfield 97, 3) := by decide +kernel
theorem dX11_keep_20 : decode cX11_keep 20 = .ok (.iconst 3, 1) := by decide +kernel
theorem dX11_keep_21 : decode cX11_keep 21 = .ok (.if_icmp .lt 6, 3) := by decide +kernel
theorem dX11_keep_24 : decode cX11_keep 24 = .ok (.bipush (-4), 2) := by decide +kernel
theorem dX11_keep_26 : decode cX11_keep 26 = .ok (.ireturn, 1) := by decide +kernel
theorem dX11_keep_27 : decode cX11_keep 27 = .ok (.aload_n 0, 1) := by decide +kernel
theorem dX11_keep_28 : decode cX11_keep 28 = .ok (.getfield 26, 3) := by decide +kernel
theorem dX11_keep_31 : decode cX11_keep 31 = .ok (.aload_n 0, 1) := by decide +kernel
theorem dX11_keep_32 : decode cX11_keep 32 = .ok (.getfield 85, 3) := by decide +kernel
theorem dX11_keep_35 : decode cX11_keep 35 = .ok (.aload_n 0, 1) := by decide +kernel
theorem dX11_keep_36 : decode cX11_keep 36 = .ok (.getfield 19, 3) := by decide +kernel
theorem dX11_keep_39 : decode cX11_keep 39 = .ok (.getfield 140, 3) := by decide +kernel
theorem dX11_keep_42 : decode cX11_keep 42 = .ok (.invokevirtual 147, 3) := by decide +kernel
theorem dX11_keep_45 : decode cX11_keep 45 = .ok (.ireturn, 1) := by decide +kernel
theorem dX11_base_0 : decode cX11_base 0 = .ok (.aload_n 0, 1) := by decide +kernel
theorem dX11_base_1 : decode cX11_base 1 = .ok (.getfield 26, 3) := by decide +kernel
theorem dX11_base_4 : decode cX11_base 4 = .ok (.iload_n 1, 1) := by decide +kernel
theorem dX11_base_5 : decode cX11_base 5 = .ok (.invokevirtual 150, 3) := by decide +kernel
theorem dX11_base_8 : decode cX11_base 8 = .ok (.ifCond .ne 5, 3) := by decide +kernel
theorem dX11_base_11 : decode cX11_base 11 = .ok (.iconst (-1), 1) := by decide +kernel
theorem dX11_base_12 : decode cX11_base 12 = .ok (.ireturn, 1) := by decide +kernel
theorem dX11_base_13 : decode cX11_base 13 = .ok (.aload_n 0, 1) := by decide +kernel
theorem dX11_base_14 : decode cX11_base 14 = .ok (.getfield 26, 3) := by decide +kernel
theorem dX11_base_17 : decode cX11_base 17 = .ok (.getfield 151, 3) := by decide +kernel
theorem dX11_base_20 : decode cX11_base 20 = .ok (.istore_n 2, 1) := by decide +kernel
theorem dX11_base_21 : decode cX11_base 21 = .ok (.aload_n 0, 1) := by decide +kernel
theorem dX11_base_22 : decode cX11_base 22 = .ok (.getfield 26, 3) := by decide +kernel
theorem dX11_base_25 : decode cX11_base 25 = .ok (.iload_n 1, 1) := by decide +kernel
theorem dX11_base_26 : decode cX11_base 26 = .ok (.putfield 151, 3) := by decide +kernel
theorem dX11_base_29 : decode cX11_base 29 = .ok (.iload_n 2, 1) := by decide +kernel
theorem dX11_base_30 : decode cX11_base 30 = .ok (.ireturn, 1) := by decide +kernel
theorem dX11_old_0 : decode cX11_old 0 = .ok (.aload_n 0, 1) := by decide +kernel
theorem dX11_old_1 : decode cX11_old 1 = .ok (.getfield 26, 3) := by decide +kernel
theorem dX11_old_4 : decode cX11_old 4 = .ok (.iload_n 1, 1) := by decide +kernel
theorem dX11_old_5 : decode cX11_old 5 = .ok (.invokevirtual 150, 3) := by decide +kernel
theorem dX11_old_8 : decode cX11_old 8 = .ok (.ifCond .eq 14, 3) := by decide +kernel
theorem dX11_old_11 : decode cX11_old 11 = .ok (.aload_n 0, 1) := by decide +kernel
theorem dX11_old_12 : decode cX11_old 12 = .ok (.getfield 12, 3) := by decide +kernel
theorem dX11_old_15 : decode cX11_old 15 = .ok (.iload_n 2, 1) := by decide +kernel
theorem dX11_old_16 : decode cX11_old 16 = .ok (.invokevirtual 106, 3) := by decide +kernel
theorem dX11_old_19 : decode cX11_old 19 = .ok (.ifCond .ne 5, 3) := by decide +kernel
theorem dX11_old_22 : decode cX11_old 22 = .ok (.iconst (-1), 1) := by decide +kernel
theorem dX11_old_23 : decode cX11_old 23 = .ok (.ireturn, 1) := by decide +kernel
theorem dX11_old_24 : decode cX11_old 24 = .ok (.aload_n 0, 1) := by decide +kernel
theorem dX11_old_25 : decode cX11_old 25 = .ok (.getfield 26, 3) := by decide +kernel
theorem dX11_old_28 : decode cX11_old 28 = .ok (.getfield 154, 3) := by decide +kernel
theorem dX11_old_31 : decode cX11_old 31 = .ok (.iload_n 1, 1) := by decide +kernel
theorem dX11_old_32 : decode cX11_old 32 = .ok (.aaload, 1) := by decide +kernel
theorem dX11_old_33 : decode cX11_old 33 = .ok (.iload_n 2, 1) := by decide +kernel
theorem dX11_old_34 : decode cX11_old 34 = .ok (.iaload, 1) := by decide +kernel
theorem dX11_old_35 : decode cX11_old 35 = .ok (.ireturn, 1) := by decide +kernel
theorem dX11_run_0 : decode cX11_run 0 = .ok (.aload_n 0, 1) := by decide +kernel
theorem dX11_run_1 : decode cX11_run 1 = .ok (.getfield 12, 3) := by decide +kernel
theorem dX11_run_4 : decode cX11_run 4 = .ok (.getfield 101, 3) := by decide +kernel
theorem dX11_run_7 : decode cX11_run 7 = .ok (.ifCond .ne 6, 3) := by decide +kernel
theorem dX11_run_10 : decode cX11_run 10 = .ok (.bipush (-3), 2) := by decide +kernel
theorem dX11_run_12 : decode cX11_run 12 = .ok (.ireturn, 1) := by decide +kernel
theorem dX11_run_13 : decode cX11_run 13 = .ok (.aload_n 0, 1) := by decide +kernel
theorem dX11_run_14 : decode cX11_run 14 = .ok (.getfield 51, 3) := by decide +kernel
theorem dX11_run_17 : decode cX11_run 17 = .ok (.invokevirtual 157, 3) := by decide +kernel
theorem dX11_run_20 : decode cX11_run 20 = .ok (.aload_n 0, 1) := by decide +kernel
theorem dX11_run_21 : decode cX11_run 21 = .ok (.getfield 58, 3) := by decide +kernel
theorem dX11_run_24 : decode cX11_run 24 = .ok (.aload_n 0, 1) := by decide +kernel
theorem dX11_run_25 : decode cX11_run 25 = .ok (.getfield 89, 3) := by decide +kernel
theorem dX11_run_28 : decode cX11_run 28 = .ok (.invokevirtual 160, 3) := by decide +kernel
theorem dX11_run_31 : decode cX11_run 31 = .ok (.aload_n 0, 1) := by decide +kernel
theorem dX11_run_32 : decode cX11_run 32 = .ok (.getfield 51, 3) := by decide +kernel
theorem dX11_run_35 : decode cX11_run 35 = .ok (.aload_n 0, 1) := by decide +kernel
theorem dX11_run_36 : decode cX11_run 36 = .ok (.getfield 58, 3) := by decide +kernel
theorem dX11_run_39 : decode cX11_run 39 = .ok (.invokevirtual 164, 3) := by decide +kernel
theorem dX11_run_42 : decode cX11_run 42 = .ok (.aload_n 0, 1) := by decide +kernel
theorem dX11_run_43 : decode cX11_run 43 = .ok (.getfield 58, 3) := by decide +kernel
theorem dX11_run_46 : decode cX11_run 46 = .ok (.getfield 168, 3) := by decide +kernel
theorem dX11_run_49 : decode cX11_run 49 = .ok (.ifCond .ne 6, 3) := by decide +kernel
theorem dX11_run_52 : decode cX11_run 52 = .ok (.bipush (-5), 2) := by decide +kernel
theorem dX11_run_54 : decode cX11_run 54 = .ok (.ireturn, 1) := by decide +kernel
theorem dX11_run_55 : decode cX11_run 55 = .ok (.aload_n 0, 1) := by decide +kernel
theorem dX11_run_56 : decode cX11_run 56 = .ok (.getfield 33, 3) := by decide +kernel
theorem dX11_run_59 : decode cX11_run 59 = .ok (.aload_n 0, 1) := by decide +kernel
theorem dX11_run_60 : decode cX11_run 60 = .ok (.getfield 85, 3) := by decide +kernel
theorem dX11_run_63 : decode cX11_run 63 = .ok (.aload_n 0, 1) := by decide +kernel
theorem dX11_run_64 : decode cX11_run 64 = .ok (.getfield 12, 3) := by decide +kernel
theorem dX11_run_67 : decode cX11_run 67 = .ok (.getfield 101, 3) := by decide +kernel
theorem dX11_run_70 : decode cX11_run 70 = .ok (.invokevirtual 171, 3) := by decide +kernel
theorem dX11_run_73 : decode cX11_run 73 = .ok (.aload_n 0, 1) := by decide +kernel
theorem dX11_run_74 : decode cX11_run 74 = .ok (.getfield 58, 3) := by decide +kernel
theorem dX11_run_77 : decode cX11_run 77 = .ok (.getfield 175, 3) := by decide +kernel
theorem dX11_run_80 : decode cX11_run 80 = .ok (.iconst 0, 1) := by decide +kernel
theorem dX11_run_81 : decode cX11_run 81 = .ok (.aload_n 0, 1) := by decide +kernel
theorem dX11_run_82 : decode cX11_run 82 = .ok (.getfield 85, 3) := by decide +kernel
theorem dX11_run_85 : decode cX11_run 85 = .ok (.iconst 0, 1) := by decide +kernel
theorem dX11_run_86 : decode cX11_run 86 = .ok (.aload_n 0, 1) := by decide +kernel
theorem dX11_run_87 : decode cX11_run 87 = .ok (.getfield 12, 3) := by decide +kernel
theorem dX11_run_90 : decode cX11_run 90 = .ok (.getfield 101, 3) := by decide +kernel
theorem dX11_run_93 : decode cX11_run 93 = .ok (.invokestatic 178, 3) := by decide +kernel
theorem dX11_run_96 : decode cX11_run 96 = .ok (.aload_n 0, 1) := by decide +kernel
theorem dX11_run_97 : decode cX11_run 97 = .ok (.getfield 58, 3) := by decide +kernel
theorem dX11_run_100 : decode cX11_run 100 = .ok (.getfield 184, 3) := by decide +kernel
theorem dX11_run_103 : decode cX11_run 103 = .ok (.ireturn, 1) := by decide +kernel
theorem dX11_undo_0 : decode cX11_undo 0 = .ok (.aload_n 0, 1) := by decide +kernel
theorem dX11_undo_1 : decode cX11_undo 1 = .ok (.getfield 33, 3) := by decide +kernel
theorem dX11_undo_4 : decode cX11_undo 4 = .ok (.getfield 187, 3) := by decide +kernel
theorem dX11_undo_7 : decode cX11_undo 7 = .ok (.ifCond .ne 6, 3) := by decide +kernel
theorem dX11_undo_10 : decode cX11_undo 10 = .ok (.bipush (-3), 2) := by decide +kernel
theorem dX11_undo_12 : decode cX11_undo 12 = .ok (.ireturn, 1) := by decide +kernel
theorem dX11_undo_13 : decode cX11_undo 13 = .ok (.aload_n 0, 1) := by decide +kernel
theorem dX11_undo_14 : decode cX11_undo 14 = .ok (.getfield 33, 3) := by decide +kernel
theorem dX11_undo_17 : decode cX11_undo 17 = .ok (.aload_n 0, 1) := by decide +kernel
theorem dX11_undo_18 : decode cX11_undo 18 = .ok (.getfield 85, 3) := by decide +kernel
theorem dX11_undo_21 : decode cX11_undo 21 = .ok (.invokevirtual 188, 3) := by decide +kernel
theorem dX11_undo_24 : decode cX11_undo 24 = .ok (.aload_n 0, 1) := by decide +kernel
theorem dX11_undo_25 : decode cX11_undo 25 = .ok (.getfield 33, 3) := by decide +kernel
theorem dX11_undo_28 : decode cX11_undo 28 = .ok (.getfield 187, 3) := by decide +kernel
theorem dX11_undo_31 : decode cX11_undo 31 = .ok (.ireturn, 1) := by decide +kernel
theorem dX11_told_0 : decode cX11_told 0 = .ok (.iload_n 1, 1) := by decide +kernel
theorem dX11_told_1 : decode cX11_told 1 = .ok (.tableswitch 139 0 7 #[47, 59, 71, 86, 98, 106, 111, 131], 47) := by decide +kernel
theorem dX11_told_48 : decode cX11_told 48 = .ok (.aload_n 0, 1) := by decide +kernel
theorem dX11_told_49 : decode cX11_told 49 = .ok (.getfield 42, 3) := by decide +kernel
theorem dX11_told_52 : decode cX11_told 52 = .ok (.aload_n 0, 1) := by decide +kernel
theorem dX11_told_53 : decode cX11_told 53 = .ok (.getfield 85, 3) := by decide +kernel
theorem dX11_told_56 : decode cX11_told 56 = .ok (.invokevirtual 192, 3) := by decide +kernel
theorem dX11_told_59 : decode cX11_told 59 = .ok (.ireturn, 1) := by decide +kernel
theorem dX11_told_60 : decode cX11_told 60 = .ok (.aload_n 0, 1) := by decide +kernel
theorem dX11_told_61 : decode cX11_told 61 = .ok (.getfield 42, 3) := by decide +kernel
theorem dX11_told_64 : decode cX11_told 64 = .ok (.aload_n 0, 1) := by decide +kernel
theorem dX11_told_65 : decode cX11_told 65 = .ok (.getfield 85, 3) := by decide +kernel
theorem dX11_told_68 : decode cX11_told 68 = .ok (.invokevirtual 196, 3) := by decide +kernel
theorem dX11_told_71 : decode cX11_told 71 = .ok (.ireturn, 1) := by decide +kernel
theorem dX11_told_72 : decode cX11_told 72 = .ok (.aload_n 0, 1) := by decide +kernel
theorem dX11_told_73 : decode cX11_told 73 = .ok (.getfield 42, 3) := by decide +kernel
theorem dX11_told_76 : decode cX11_told 76 = .ok (.aload_n 0, 1) := by decide +kernel
theorem dX11_told_77 : decode cX11_told 77 = .ok (.getfield 85, 3) := by decide +kernel
theorem dX11_told_80 : decode cX11_told 80 = .ok (.invokevirtual 199, 3) := by decide +kernel
theorem dX11_told_83 : decode cX11_told 83 = .ok (.invokestatic 202, 3) := by decide +kernel
theorem dX11_told_86 : decode cX11_told 86 = .ok (.ireturn, 1) := by decide +kernel
theorem dX11_told_87 : decode cX11_told 87 = .ok (.aload_n 0, 1) := by decide +kernel
theorem dX11_told_88 : decode cX11_told 88 = .ok (.getfield 42, 3) := by decide +kernel
theorem dX11_told_91 : decode cX11_told 91 = .ok (.aload_n 0, 1) := by decide +kernel
theorem dX11_told_92 : decode cX11_told 92 = .ok (.getfield 85, 3) := by decide +kernel
theorem dX11_told_95 : decode cX11_told 95 = .ok (.invokevirtual 199, 3) := by decide +kernel
theorem dX11_told_98 : decode cX11_told 98 = .ok (.ireturn, 1) := by decide +kernel
theorem dX11_told_99 : decode cX11_told 99 = .ok (.aload_n 0, 1) := by decide +kernel
theorem dX11_told_100 : decode cX11_told 100 = .ok (.invokevirtual 207, 3) := by decide +kernel
theorem dX11_told_103 : decode cX11_told 103 = .ok (.invokestatic 202, 3) := by decide +kernel
theorem dX11_told_106 : decode cX11_told 106 = .ok (.ireturn, 1) := by decide +kernel
theorem dX11_told_107 : decode cX11_told 107 = .ok (.aload_n 0, 1) := by decide +kernel
theorem dX11_told_108 : decode cX11_told 108 = .ok (.invokevirtual 207, 3) := by decide +kernel
theorem dX11_told_111 : decode cX11_told 111 = .ok (.ireturn, 1) := by decide +kernel
theorem dX11_told_112 : decode cX11_told 112 = .ok (.aload_n 0, 1) := by decide +kernel
theorem dX11_told_113 : decode cX11_told 113 = .ok (.getfield 42, 3) := by decide +kernel
theorem dX11_told_116 : decode cX11_told 116 = .ok (.aload_n 0, 1) := by decide +kernel
theorem dX11_told_117 : decode cX11_told 117 = .ok (.getfield 85, 3) := by decide +kernel
theorem dX11_told_120 : decode cX11_told 120 = .ok (.invokevirtual 211, 3) := by decide +kernel
theorem dX11_told_123 : decode cX11_told 123 = .ok (.ifCond .eq 7, 3) := by decide +kernel
theorem dX11_told_126 : decode cX11_told 126 = .ok (.iconst 1, 1) := by decide +kernel
theorem dX11_told_127 : decode cX11_told 127 = .ok (.goto 4, 3) := by decide +kernel
theorem dX11_told_130 : decode cX11_told 130 = .ok (.iconst 0, 1) := by decide +kernel
theorem dX11_told_131 : decode cX11_told 131 = .ok (.ireturn, 1) := by decide +kernel
theorem dX11_told_132 : decode cX11_told 132 = .ok (.aload_n 0, 1) := by decide +kernel
theorem dX11_told_133 : decode cX11_told 133 = .ok (.getfield 26, 3) := by decide +kernel
theorem dX11_told_136 : decode cX11_told 136 = .ok (.getfield 151, 3) := by decide +kernel
theorem dX11_told_139 : decode cX11_told 139 = .ok (.ireturn, 1) := by decide +kernel
theorem dX11_told_140 : decode cX11_told 140 = .ok (.bipush (-2), 2) := by decide +kernel
theorem dX11_told_142 : decode cX11_told 142 = .ok (.ireturn, 1) := by decide +kernel
theorem dX11_near_0 : decode cX11_near 0 = .ok (.iload_n 1, 1) := by decide +kernel
theorem dX11_near_1 : decode cX11_near 1 = .ok (.iconst 0, 1) := by decide +kernel
theorem dX11_near_2 : decode cX11_near 2 = .ok (.sipush 2000, 3) := by decide +kernel
theorem dX11_near_5 : decode cX11_near 5 = .ok (.invokestatic 93, 3) := by decide +kernel
theorem dX11_near_8 : decode cX11_near 8 = .ok (.ifCond .ne 6, 3) := by decide +kernel
theorem dX11_near_11 : decode cX11_near 11 = .ok (.bipush (-2), 2) := by decide +kernel
theorem dX11_near_13 : decode cX11_near 13 = .ok (.ireturn, 1) := by decide +kernel
theorem dX11_near_14 : decode cX11_near 14 = .ok (.aload_n 0, 1) := by decide +kernel
theorem dX11_near_15 : decode cX11_near 15 = .ok (.getfield 12, 3) := by decide +kernel
theorem dX11_near_18 : decode cX11_near 18 = .ok (.getfield 101, 3) := by decide +kernel
theorem dX11_near_21 : decode cX11_near 21 = .ok (.ifCond .ne 6, 3) := by decide +kernel
theorem dX11_near_24 : decode cX11_near 24 = .ok (.bipush (-3), 2) := by decide +kernel
theorem dX11_near_26 : decode cX11_near 26 = .ok (.ireturn, 1) := by decide +kernel
theorem dX11_near_27 : decode cX11_near 27 = .ok (.aload_n 0, 1) := by decide +kernel
theorem dX11_near_28 : decode cX11_near 28 = .ok (.getfield 51, 3) := by decide +kernel
theorem dX11_near_31 : decode cX11_near 31 = .ok (.invokevirtual 157, 3) := by decide +kernel
theorem dX11_near_34 : decode cX11_near 34 = .ok (.aload_n 0, 1) := by decide +kernel
theorem dX11_near_35 : decode cX11_near 35 = .ok (.getfield 65, 3) := by decide +kernel
theorem dX11_near_38 : decode cX11_near 38 = .ok (.iload_n 1, 1) := by decide +kernel
theorem dX11_near_39 : decode cX11_near 39 = .ok (.invokevirtual 215, 3) := by decide +kernel
theorem dX11_near_42 : decode cX11_near 42 = .ok (.aload_n 0, 1) := by decide +kernel
theorem dX11_near_43 : decode cX11_near 43 = .ok (.getfield 51, 3) := by decide +kernel
theorem dX11_near_46 : decode cX11_near 46 = .ok (.aload_n 0, 1) := by decide +kernel
theorem dX11_near_47 : decode cX11_near 47 = .ok (.getfield 65, 3) := by decide +kernel
theorem dX11_near_50 : decode cX11_near 50 = .ok (.invokevirtual 164, 3) := by decide +kernel
theorem dX11_near_53 : decode cX11_near 53 = .ok (.aload_n 0, 1) := by decide +kernel
theorem dX11_near_54 : decode cX11_near 54 = .ok (.getfield 65, 3) := by decide +kernel
theorem dX11_near_57 : decode cX11_near 57 = .ok (.getfield 218, 3) := by decide +kernel
theorem dX11_near_60 : decode cX11_near 60 = .ok (.ireturn, 1) := by decide +kernel
theorem dX11_least_0 : decode cX11_least 0 = .ok (.aload_n 0, 1) := by decide +kernel
theorem dX11_least_1 : decode cX11_least 1 = .ok (.getfield 12, 3) := by decide +kernel
theorem dX11_least_4 : decode cX11_least 4 = .ok (.getfield 101, 3) := by decide +kernel
theorem dX11_least_7 : decode cX11_least 7 = .ok (.ifCond .ne 6, 3) := by decide +kernel
theorem dX11_least_10 : decode cX11_least 10 = .ok (.bipush (-3), 2) := by decide +kernel
theorem dX11_least_12 : decode cX11_least 12 = .ok (.ireturn, 1) := by decide +kernel
theorem dX11_least_13 : decode cX11_least 13 = .ok (.aload_n 0, 1) := by decide +kernel
theorem dX11_least_14 : decode cX11_least 14 = .ok (.getfield 51, 3) := by decide +kernel
theorem dX11_least_17 : decode cX11_least 17 = .ok (.invokevirtual 157, 3) := by decide +kernel
theorem dX11_least_20 : decode cX11_least 20 = .ok (.aload_n 0, 1) := by decide +kernel
theorem dX11_least_21 : decode cX11_least 21 = .ok (.invokevirtual 219, 3) := by decide +kernel
theorem dX11_least_24 : decode cX11_least 24 = .ok (.ireturn, 1) := by decide +kernel
theorem dX11_without_0 : decode cX11_without 0 = .ok (.aload_n 0, 1) := by decide +kernel
theorem dX11_without_1 : decode cX11_without 1 = .ok (.getfield 19, 3) := by decide +kernel
theorem dX11_without_4 : decode cX11_without 4 = .ok (.iload_n 1, 1) := by decide +kernel
theorem dX11_without_5 : decode cX11_without 5 = .ok (.invokevirtual 222, 3) := by decide +kernel
theorem dX11_without_8 : decode cX11_without 8 = .ok (.ifCond .ne 5, 3) := by decide +kernel
theorem dX11_without_11 : decode cX11_without 11 = .ok (.iconst (-1), 1) := by decide +kernel
theorem dX11_without_12 : decode cX11_without 12 = .ok (.ireturn, 1) := by decide +kernel
theorem dX11_without_13 : decode cX11_without 13 = .ok (.aload_n 0, 1) := by decide +kernel
theorem dX11_without_14 : decode cX11_without 14 = .ok (.getfield 12, 3) := by decide +kernel
theorem dX11_without_17 : decode cX11_without 17 = .ok (.getfield 101, 3) := by decide +kernel
theorem dX11_without_20 : decode cX11_without 20 = .ok (.ifCond .ne 6, 3) := by decide +kernel
theorem dX11_without_23 : decode cX11_without 23 = .ok (.bipush (-3), 2) := by decide +kernel
theorem dX11_without_25 : decode cX11_without 25 = .ok (.ireturn, 1) := by decide +kernel
theorem dX11_without_26 : decode cX11_without 26 = .ok (.aload_n 0, 1) := by decide +kernel
theorem dX11_without_27 : decode cX11_without 27 = .ok (.getfield 51, 3) := by decide +kernel
theorem dX11_without_30 : decode cX11_without 30 = .ok (.invokevirtual 157, 3) := by decide +kernel
theorem dX11_without_33 : decode cX11_without 33 = .ok (.aload_n 0, 1) := by decide +kernel
theorem dX11_without_34 : decode cX11_without 34 = .ok (.getfield 51, 3) := by decide +kernel
theorem dX11_without_37 : decode cX11_without 37 = .ok (.iload_n 1, 1) := by decide +kernel
theorem dX11_without_38 : decode cX11_without 38 = .ok (.invokevirtual 223, 3) := by decide +kernel
theorem dX11_without_41 : decode cX11_without 41 = .ok (.aload_n 0, 1) := by decide +kernel
theorem dX11_without_42 : decode cX11_without 42 = .ok (.invokevirtual 219, 3) := by decide +kernel
theorem dX11_without_45 : decode cX11_without 45 = .ok (.ireturn, 1) := by decide +kernel
theorem dX11_spare_0 : decode cX11_spare 0 = .ok (.iload_n 1, 1) := by decide +kernel
theorem dX11_spare_1 : decode cX11_spare 1 = .ok (.iconst 0, 1) := by decide +kernel
theorem dX11_spare_2 : decode cX11_spare 2 = .ok (.iconst 3, 1) := by decide +kernel
theorem dX11_spare_3 : decode cX11_spare 3 = .ok (.invokestatic 93, 3) := by decide +kernel
theorem dX11_spare_6 : decode cX11_spare 6 = .ok (.ifCond .ne 6, 3) := by decide +kernel
theorem dX11_spare_9 : decode cX11_spare 9 = .ok (.bipush (-2), 2) := by decide +kernel
theorem dX11_spare_11 : decode cX11_spare 11 = .ok (.ireturn, 1) := by decide +kernel
theorem dX11_spare_12 : decode cX11_spare 12 = .ok (.aload_n 0, 1) := by decide +kernel
theorem dX11_spare_13 : decode cX11_spare 13 = .ok (.getfield 12, 3) := by decide +kernel
theorem dX11_spare_16 : decode cX11_spare 16 = .ok (.getfield 101, 3) := by decide +kernel
theorem dX11_spare_19 : decode cX11_spare 19 = .ok (.ifCond .ne 6, 3) := by decide +kernel
theorem dX11_spare_22 : decode cX11_spare 22 = .ok (.bipush (-3), 2) := by decide +kernel
theorem dX11_spare_24 : decode cX11_spare 24 = .ok (.ireturn, 1) := by decide +kernel
theorem dX11_spare_25 : decode cX11_spare 25 = .ok (.aload_n 0, 1) := by decide +kernel
theorem dX11_spare_26 : decode cX11_spare 26 = .ok (.getfield 51, 3) := by decide +kernel
theorem dX11_spare_29 : decode cX11_spare 29 = .ok (.invokevirtual 157, 3) := by decide +kernel
theorem dX11_spare_32 : decode cX11_spare 32 = .ok (.aload_n 0, 1) := by decide +kernel
theorem dX11_spare_33 : decode cX11_spare 33 = .ok (.getfield 51, 3) := by decide +kernel
theorem dX11_spare_36 : decode cX11_spare 36 = .ok (.iload_n 1, 1) := by decide +kernel
theorem dX11_spare_37 : decode cX11_spare 37 = .ok (.invokevirtual 226, 3) := by decide +kernel
theorem dX11_spare_40 : decode cX11_spare 40 = .ok (.aload_n 0, 1) := by decide +kernel
theorem dX11_spare_41 : decode cX11_spare 41 = .ok (.invokevirtual 219, 3) := by decide +kernel
theorem dX11_spare_44 : decode cX11_spare 44 = .ok (.ireturn, 1) := by decide +kernel
theorem dX11_why_0 : decode cX11_why 0 = .ok (.aload_n 0, 1) := by decide +kernel
theorem dX11_why_1 : decode cX11_why 1 = .ok (.getfield 12, 3) := by decide +kernel
theorem dX11_why_4 : decode cX11_why 4 = .ok (.iload_n 1, 1) := by decide +kernel
theorem dX11_why_5 : decode cX11_why 5 = .ok (.invokevirtual 106, 3) := by decide +kernel
theorem dX11_why_8 : decode cX11_why 8 = .ok (.ifCond .ne 5, 3) := by decide +kernel
theorem dX11_why_11 : decode cX11_why 11 = .ok (.iconst (-1), 1) := by decide +kernel
theorem dX11_why_12 : decode cX11_why 12 = .ok (.ireturn, 1) := by decide +kernel
theorem dX11_why_13 : decode cX11_why 13 = .ok (.aload_n 0, 1) := by decide +kernel
theorem dX11_why_14 : decode cX11_why 14 = .ok (.getfield 26, 3) := by decide +kernel
theorem dX11_why_17 : decode cX11_why 17 = .ok (.iload_n 1, 1) := by decide +kernel
theorem dX11_why_18 : decode cX11_why 18 = .ok (.aload_n 0, 1) := by decide +kernel
theorem dX11_why_19 : decode cX11_why 19 = .ok (.getfield 85, 3) := by decide +kernel
theorem dX11_why_22 : decode cX11_why 22 = .ok (.iload_n 1, 1) := by decide +kernel
theorem dX11_why_23 : decode cX11_why 23 = .ok (.iaload, 1) := by decide +kernel
theorem dX11_why_24 : decode cX11_why 24 = .ok (.invokevirtual 229, 3) := by decide +kernel
theorem dX11_why_27 : decode cX11_why 27 = .ok (.ifCond .ne 6, 3) := by decide +kernel
theorem dX11_why_30 : decode cX11_why 30 = .ok (.bipush (-3), 2) := by decide +kernel
theorem dX11_why_32 : decode cX11_why 32 = .ok (.ireturn, 1) := by decide +kernel
theorem dX11_why_33 : decode cX11_why 33 = .ok (.iconst 0, 1) := by decide +kernel
theorem dX11_why_34 : decode cX11_why 34 = .ok (.istore_n 2, 1) := by decide +kernel
theorem dX11_why_35 : decode cX11_why 35 = .ok (.iload_n 2, 1) := by decide +kernel
theorem dX11_why_36 : decode cX11_why 36 = .ok (.aload_n 0, 1) := by decide +kernel
theorem dX11_why_37 : decode cX11_why 37 = .ok (.getfield 19, 3) := by decide +kernel
theorem dX11_why_40 : decode cX11_why 40 = .ok (.getfield 130, 3) := by decide +kernel
theorem dX11_why_43 : decode cX11_why 43 = .ok (.if_icmp .ge 40, 3) := by decide +kernel
theorem dX11_why_46 : decode cX11_why 46 = .ok (.aload_n 0, 1) := by decide +kernel
theorem dX11_why_47 : decode cX11_why 47 = .ok (.getfield 19, 3) := by decide +kernel
theorem dX11_why_50 : decode cX11_why 50 = .ok (.getfield 140, 3) := by decide +kernel
theorem dX11_why_53 : decode cX11_why 53 = .ok (.iload_n 2, 1) := by decide +kernel
theorem dX11_why_54 : decode cX11_why 54 = .ok (.iaload, 1) := by decide +kernel
theorem dX11_why_55 : decode cX11_why 55 = .ok (.aload_n 0, 1) := by decide +kernel
theorem dX11_why_56 : decode cX11_why 56 = .ok (.getfield 26, 3) := by decide +kernel
theorem dX11_why_59 : decode cX11_why 59 = .ok (.iload_n 2, 1) := by decide +kernel
theorem dX11_why_60 : decode cX11_why 60 = .ok (.invokevirtual 232, 3) := by decide +kernel
theorem dX11_why_63 : decode cX11_why 63 = .ok (.if_icmp .eq 14, 3) := by decide +kernel
theorem dX11_why_66 : decode cX11_why 66 = .ok (.aload_n 0, 1) := by decide +kernel
theorem dX11_why_67 : decode cX11_why 67 = .ok (.iload_n 2, 1) := by decide +kernel
theorem dX11_why_68 : decode cX11_why 68 = .ok (.iload_n 1, 1) := by decide +kernel
theorem dX11_why_69 : decode cX11_why 69 = .ok (.invokevirtual 235, 3) := by decide +kernel
theorem dX11_why_72 : decode cX11_why 72 = .ok (.ifCond .eq 5, 3) := by decide +kernel
theorem dX11_why_75 : decode cX11_why 75 = .ok (.iload_n 2, 1) := by decide +kernel
theorem dX11_why_76 : decode cX11_why 76 = .ok (.ireturn, 1) := by decide +kernel
theorem dX11_why_77 : decode cX11_why 77 = .ok (.iinc 2 1, 3) := by decide +kernel
theorem dX11_why_80 : decode cX11_why 80 = .ok (.goto (-45), 3) := by decide +kernel
theorem dX11_why_83 : decode cX11_why 83 = .ok (.bipush (-5), 2) := by decide +kernel
theorem dX11_why_85 : decode cX11_why 85 = .ok (.ireturn, 1) := by decide +kernel
theorem dX11_way_0 : decode cX11_way 0 = .ok (.aload_n 0, 1) := by decide +kernel
theorem dX11_way_1 : decode cX11_way 1 = .ok (.getfield 26, 3) := by decide +kernel
theorem dX11_way_4 : decode cX11_way 4 = .ok (.invokevirtual 238, 3) := by decide +kernel
theorem dX11_way_7 : decode cX11_way 7 = .ok (.ifCond .ne 6, 3) := by decide +kernel
theorem dX11_way_10 : decode cX11_way 10 = .ok (.bipush (-3), 2) := by decide +kernel
theorem dX11_way_12 : decode cX11_way 12 = .ok (.ireturn, 1) := by decide +kernel
theorem dX11_way_13 : decode cX11_way 13 = .ok (.aload_n 0, 1) := by decide +kernel
theorem dX11_way_14 : decode cX11_way 14 = .ok (.getfield 81, 3) := by decide +kernel
theorem dX11_way_17 : decode cX11_way 17 = .ok (.aload_n 0, 1) := by decide +kernel
theorem dX11_way_18 : decode cX11_way 18 = .ok (.getfield 85, 3) := by decide +kernel
theorem dX11_way_21 : decode cX11_way 21 = .ok (.aload_n 0, 1) := by decide +kernel
theorem dX11_way_22 : decode cX11_way 22 = .ok (.getfield 42, 3) := by decide +kernel
theorem dX11_way_25 : decode cX11_way 25 = .ok (.aload_n 0, 1) := by decide +kernel
theorem dX11_way_26 : decode cX11_way 26 = .ok (.getfield 85, 3) := by decide +kernel
theorem dX11_way_29 : decode cX11_way 29 = .ok (.invokevirtual 199, 3) := by decide +kernel
theorem dX11_way_32 : decode cX11_way 32 = .ok (.invokevirtual 242, 3) := by decide +kernel
theorem dX11_way_35 : decode cX11_way 35 = .ok (.iload_n 1, 1) := by decide +kernel
theorem dX11_way_36 : decode cX11_way 36 = .ok (.iconst 0, 1) := by decide +kernel
theorem dX11_way_37 : decode cX11_way 37 = .ok (.aload_n 0, 1) := by decide +kernel
theorem dX11_way_38 : decode cX11_way 38 = .ok (.getfield 81, 3) := by decide +kernel
theorem dX11_way_41 : decode cX11_way 41 = .ok (.getfield 245, 3) := by decide +kernel
theorem dX11_way_44 : decode cX11_way 44 = .ok (.iconst 1, 1) := by decide +kernel
theorem dX11_way_45 : decode cX11_way 45 = .ok (.isub, 1) := by decide +kernel
theorem dX11_way_46 : decode cX11_way 46 = .ok (.invokestatic 93, 3) := by decide +kernel
theorem dX11_way_49 : decode cX11_way 49 = .ok (.ifCond .eq 15, 3) := by decide +kernel
theorem dX11_way_52 : decode cX11_way 52 = .ok (.aload_n 0, 1) := by decide +kernel
theorem dX11_way_53 : decode cX11_way 53 = .ok (.getfield 81, 3) := by decide +kernel
theorem dX11_way_56 : decode cX11_way 56 = .ok (.getfield 248, 3) := by decide +kernel
theorem dX11_way_59 : decode cX11_way 59 = .ok (.iload_n 1, 1) := by decide +kernel
theorem dX11_way_60 : decode cX11_way 60 = .ok (.iaload, 1) := by decide +kernel
theorem dX11_way_61 : decode cX11_way 61 = .ok (.goto 5, 3) := by decide +kernel
theorem dX11_way_64 : decode cX11_way 64 = .ok (.bipush (-5), 2) := by decide +kernel
theorem dX11_way_66 : decode cX11_way 66 = .ok (.ireturn, 1) := by decide +kernel
theorem dX11_broken_0 : decode cX11_broken 0 = .ok (.aload_n 0, 1) := by decide +kernel
theorem dX11_broken_1 : decode cX11_broken 1 = .ok (.getfield 26, 3) := by decide +kernel
theorem dX11_broken_4 : decode cX11_broken 4 = .ok (.invokevirtual 238, 3) := by decide +kernel
theorem dX11_broken_7 : decode cX11_broken 7 = .ok (.ifCond .ne 6, 3) := by decide +kernel
theorem dX11_broken_10 : decode cX11_broken 10 = .ok (.bipush (-3), 2) := by decide +kernel
theorem dX11_broken_12 : decode cX11_broken 12 = .ok (.ireturn, 1) := by decide +kernel
theorem dX11_broken_13 : decode cX11_broken 13 = .ok (.aload_n 0, 1) := by decide +kernel
theorem dX11_broken_14 : decode cX11_broken 14 = .ok (.getfield 81, 3) := by decide +kernel
theorem dX11_broken_17 : decode cX11_broken 17 = .ok (.aload_n 0, 1) := by decide +kernel
theorem dX11_broken_18 : decode cX11_broken 18 = .ok (.getfield 85, 3) := by decide +kernel
theorem dX11_broken_21 : decode cX11_broken 21 = .ok (.aload_n 0, 1) := by decide +kernel
theorem dX11_broken_22 : decode cX11_broken 22 = .ok (.getfield 42, 3) := by decide +kernel
theorem dX11_broken_25 : decode cX11_broken 25 = .ok (.aload_n 0, 1) := by decide +kernel
theorem dX11_broken_26 : decode cX11_broken 26 = .ok (.getfield 85, 3) := by decide +kernel
theorem dX11_broken_29 : decode cX11_broken 29 = .ok (.invokevirtual 199, 3) := by decide +kernel
theorem dX11_broken_32 : decode cX11_broken 32 = .ok (.invokevirtual 242, 3) := by decide +kernel
theorem dX11_broken_35 : decode cX11_broken 35 = .ok (.iload_n 1, 1) := by decide +kernel
theorem dX11_broken_36 : decode cX11_broken 36 = .ok (.iconst 0, 1) := by decide +kernel
theorem dX11_broken_37 : decode cX11_broken 37 = .ok (.aload_n 0, 1) := by decide +kernel
theorem dX11_broken_38 : decode cX11_broken 38 = .ok (.getfield 81, 3) := by decide +kernel
theorem dX11_broken_41 : decode cX11_broken 41 = .ok (.getfield 245, 3) := by decide +kernel
theorem dX11_broken_44 : decode cX11_broken 44 = .ok (.iconst 1, 1) := by decide +kernel
theorem dX11_broken_45 : decode cX11_broken 45 = .ok (.isub, 1) := by decide +kernel
theorem dX11_broken_46 : decode cX11_broken 46 = .ok (.invokestatic 93, 3) := by decide +kernel
theorem dX11_broken_49 : decode cX11_broken 49 = .ok (.ifCond .eq 15, 3) := by decide +kernel
theorem dX11_broken_52 : decode cX11_broken 52 = .ok (.aload_n 0, 1) := by decide +kernel
theorem dX11_broken_53 : decode cX11_broken 53 = .ok (.getfield 81, 3) := by decide +kernel
theorem dX11_broken_56 : decode cX11_broken 56 = .ok (.getfield 251, 3) := by decide +kernel
theorem dX11_broken_59 : decode cX11_broken 59 = .ok (.iload_n 1, 1) := by decide +kernel
theorem dX11_broken_60 : decode cX11_broken 60 = .ok (.iaload, 1) := by decide +kernel
theorem dX11_broken_61 : decode cX11_broken 61 = .ok (.goto 5, 3) := by decide +kernel
theorem dX11_broken_64 : decode cX11_broken 64 = .ok (.bipush (-5), 2) := by decide +kernel
theorem dX11_broken_66 : decode cX11_broken 66 = .ok (.ireturn, 1) := by decide +kernel
theorem dX11_clash_0 : decode cX11_clash 0 = .ok (.aload_n 0, 1) := by decide +kernel
theorem dX11_clash_1 : decode cX11_clash 1 = .ok (.getfield 12, 3) := by decide +kernel
theorem dX11_clash_4 : decode cX11_clash 4 = .ok (.getfield 101, 3) := by decide +kernel
theorem dX11_clash_7 : decode cX11_clash 7 = .ok (.ifCond .ne 6, 3) := by decide +kernel
theorem dX11_clash_10 : decode cX11_clash 10 = .ok (.bipush (-3), 2) := by decide +kernel
theorem dX11_clash_12 : decode cX11_clash 12 = .ok (.ireturn, 1) := by decide +kernel
theorem dX11_clash_13 : decode cX11_clash 13 = .ok (.aload_n 0, 1) := by decide +kernel
theorem dX11_clash_14 : decode cX11_clash 14 = .ok (.getfield 51, 3) := by decide +kernel
theorem dX11_clash_17 : decode cX11_clash 17 = .ok (.invokevirtual 157, 3) := by decide +kernel
theorem dX11_clash_20 : decode cX11_clash 20 = .ok (.aload_n 0, 1) := by decide +kernel
theorem dX11_clash_21 : decode cX11_clash 21 = .ok (.getfield 72, 3) := by decide +kernel
theorem dX11_clash_24 : decode cX11_clash 24 = .ok (.aload_n 0, 1) := by decide +kernel
theorem dX11_clash_25 : decode cX11_clash 25 = .ok (.getfield 19, 3) := by decide +kernel
theorem dX11_clash_28 : decode cX11_clash 28 = .ok (.getfield 143, 3) := by decide +kernel
theorem dX11_clash_31 : decode cX11_clash 31 = .ok (.invokevirtual 254, 3) := by decide +kernel
theorem dX11_clash_34 : decode cX11_clash 34 = .ok (.aload_n 0, 1) := by decide +kernel
theorem dX11_clash_35 : decode cX11_clash 35 = .ok (.getfield 51, 3) := by decide +kernel
theorem dX11_clash_38 : decode cX11_clash 38 = .ok (.aload_n 0, 1) := by decide +kernel
theorem dX11_clash_39 : decode cX11_clash 39 = .ok (.getfield 72, 3) := by decide +kernel
theorem dX11_clash_42 : decode cX11_clash 42 = .ok (.invokevirtual 164, 3) := by decide +kernel
theorem dX11_clash_45 : decode cX11_clash 45 = .ok (.aload_n 0, 1) := by decide +kernel
theorem dX11_clash_46 : decode cX11_clash 46 = .ok (.getfield 72, 3) := by decide +kernel
theorem dX11_clash_49 : decode cX11_clash 49 = .ok (.invokevirtual 255, 3) := by decide +kernel
theorem dX11_clash_52 : decode cX11_clash 52 = .ok (.istore_n 2, 1) := by decide +kernel
theorem dX11_clash_53 : decode cX11_clash 53 = .ok (.iload_n 2, 1) := by decide +kernel
theorem dX11_clash_54 : decode cX11_clash 54 = .ok (.bipush (-5), 2) := by decide +kernel
theorem dX11_clash_56 : decode cX11_clash 56 = .ok (.if_icmp .ne 6, 3) := by decide +kernel
theorem dX11_clash_59 : decode cX11_clash 59 = .ok (.bipush (-5), 2) := by decide +kernel
theorem dX11_clash_61 : decode cX11_clash 61 = .ok (.ireturn, 1) := by decide +kernel
theorem dX11_clash_62 : decode cX11_clash 62 = .ok (.iload_n 1, 1) := by decide +kernel
theorem dX11_clash_63 : decode cX11_clash 63 = .ok (.iconst (-1), 1) := by decide +kernel
theorem dX11_clash_64 : decode cX11_clash 64 = .ok (.if_icmp .ne 10, 3) := by decide +kernel
theorem dX11_clash_67 : decode cX11_clash 67 = .ok (.iload_n 2, 1) := by decide +kernel
theorem dX11_clash_68 : decode cX11_clash 68 = .ok (.invokestatic 202, 3) := by decide +kernel
theorem dX11_clash_71 : decode cX11_clash 71 = .ok (.goto 8, 3) := by decide +kernel
theorem dX11_clash_74 : decode cX11_clash 74 = .ok (.iload_n 2, 1) := by decide +kernel
theorem dX11_clash_75 : decode cX11_clash 75 = .ok (.iload_n 1, 1) := by decide +kernel
theorem dX11_clash_76 : decode cX11_clash 76 = .ok (.invokestatic 258, 3) := by decide +kernel
theorem dX11_clash_79 : decode cX11_clash 79 = .ok (.ireturn, 1) := by decide +kernel
theorem dX11_within_0 : decode cX11_within 0 = .ok (.iload_n 0, 1) := by decide +kernel
theorem dX11_within_1 : decode cX11_within 1 = .ok (.iload_n 1, 1) := by decide +kernel
theorem dX11_within_2 : decode cX11_within 2 = .ok (.if_icmp .lt 12, 3) := by decide +kernel
theorem dX11_within_5 : decode cX11_within 5 = .ok (.iload_n 0, 1) := by decide +kernel
theorem dX11_within_6 : decode cX11_within 6 = .ok (.iload_n 2, 1) := by decide +kernel
theorem dX11_within_7 : decode cX11_within 7 = .ok (.if_icmp .gt 7, 3) := by decide +kernel
theorem dX11_within_10 : decode cX11_within 10 = .ok (.iconst 1, 1) := by decide +kernel
theorem dX11_within_11 : decode cX11_within 11 = .ok (.goto 4, 3) := by decide +kernel
theorem dX11_within_14 : decode cX11_within 14 = .ok (.iconst 0, 1) := by decide +kernel
theorem dX11_within_15 : decode cX11_within 15 = .ok (.ireturn, 1) := by decide +kernel
theorem dX11_bitAt_0 : decode cX11_bitAt 0 = .ok (.iconst 0, 1) := by decide +kernel
theorem dX11_bitAt_1 : decode cX11_bitAt 1 = .ok (.istore_n 2, 1) := by decide +kernel
theorem dX11_bitAt_2 : decode cX11_bitAt 2 = .ok (.iconst 0, 1) := by decide +kernel
theorem dX11_bitAt_3 : decode cX11_bitAt 3 = .ok (.istore_n 3, 1) := by decide +kernel
theorem dX11_bitAt_4 : decode cX11_bitAt 4 = .ok (.iload_n 3, 1) := by decide +kernel
theorem dX11_bitAt_5 : decode cX11_bitAt 5 = .ok (.bipush 12, 2) := by decide +kernel
theorem dX11_bitAt_7 : decode cX11_bitAt 7 = .ok (.if_icmp .ge 30, 3) := by decide +kernel
theorem dX11_bitAt_10 : decode cX11_bitAt 10 = .ok (.iload_n 0, 1) := by decide +kernel
theorem dX11_bitAt_11 : decode cX11_bitAt 11 = .ok (.iload_n 3, 1) := by decide +kernel
theorem dX11_bitAt_12 : decode cX11_bitAt 12 = .ok (.ishr, 1) := by decide +kernel
theorem dX11_bitAt_13 : decode cX11_bitAt 13 = .ok (.iconst 1, 1) := by decide +kernel
theorem dX11_bitAt_14 : decode cX11_bitAt 14 = .ok (.iand, 1) := by decide +kernel
theorem dX11_bitAt_15 : decode cX11_bitAt 15 = .ok (.ifCond .ne 6, 3) := by decide +kernel
theorem dX11_bitAt_18 : decode cX11_bitAt 18 = .ok (.goto 13, 3) := by decide +kernel
theorem dX11_bitAt_21 : decode cX11_bitAt 21 = .ok (.iload_n 2, 1) := by decide +kernel
theorem dX11_bitAt_22 : decode cX11_bitAt 22 = .ok (.iload_n 1, 1) := by decide +kernel
theorem dX11_bitAt_23 : decode cX11_bitAt 23 = .ok (.if_icmp .ne 5, 3) := by decide +kernel
theorem dX11_bitAt_26 : decode cX11_bitAt 26 = .ok (.iload_n 3, 1) := by decide +kernel
theorem dX11_bitAt_27 : decode cX11_bitAt 27 = .ok (.ireturn, 1) := by decide +kernel
theorem dX11_bitAt_28 : decode cX11_bitAt 28 = .ok (.iinc 2 1, 3) := by decide +kernel
theorem dX11_bitAt_31 : decode cX11_bitAt 31 = .ok (.iinc 3 1, 3) := by decide +kernel
theorem dX11_bitAt_34 : decode cX11_bitAt 34 = .ok (.goto (-30), 3) := by decide +kernel
theorem dX11_bitAt_37 : decode cX11_bitAt 37 = .ok (.bipush (-5), 2) := by decide +kernel
theorem dX11_bitAt_39 : decode cX11_bitAt 39 = .ok (.ireturn, 1) := by decide +kernel
theorem dX11_brokenNow_0 : decode cX11_brokenNow 0 = .ok (.aload_n 0, 1) := by decide +kernel
theorem dX11_brokenNow_1 : decode cX11_brokenNow 1 = .ok (.getfield 19, 3) := by decide +kernel
theorem dX11_brokenNow_4 : decode cX11_brokenNow 4 = .ok (.aload_n 0, 1) := by decide +kernel
theorem dX11_brokenNow_5 : decode cX11_brokenNow 5 = .ok (.getfield 85, 3) := by decide +kernel
theorem dX11_brokenNow_8 : decode cX11_brokenNow 8 = .ok (.aload_n 0, 1) := by decide +kernel
theorem dX11_brokenNow_9 : decode cX11_brokenNow 9 = .ok (.getfield 12, 3) := by decide +kernel
theorem dX11_brokenNow_12 : decode cX11_brokenNow 12 = .ok (.getfield 101, 3) := by decide +kernel
theorem dX11_brokenNow_15 : decode cX11_brokenNow 15 = .ok (.aload_n 0, 1) := by decide +kernel
theorem dX11_brokenNow_16 : decode cX11_brokenNow 16 = .ok (.getfield 19, 3) := by decide +kernel
theorem dX11_brokenNow_19 : decode cX11_brokenNow 19 = .ok (.getfield 140, 3) := by decide +kernel
theorem dX11_brokenNow_22 : decode cX11_brokenNow 22 = .ok (.invokevirtual 262, 3) := by decide +kernel
theorem dX11_brokenNow_25 : decode cX11_brokenNow 25 = .ok (.ireturn, 1) := by decide +kernel
theorem dX11_leastCost_0 : decode cX11_leastCost 0 = .ok (.aload_n 0, 1) := by decide +kernel
theorem dX11_leastCost_1 : decode cX11_leastCost 1 = .ok (.getfield 58, 3) := by decide +kernel
theorem dX11_leastCost_4 : decode cX11_leastCost 4 = .ok (.iconst 0, 1) := by decide +kernel
theorem dX11_leastCost_5 : decode cX11_leastCost 5 = .ok (.invokevirtual 160, 3) := by decide +kernel
theorem dX11_leastCost_8 : decode cX11_leastCost 8 = .ok (.aload_n 0, 1) := by decide +kernel
theorem dX11_leastCost_9 : decode cX11_leastCost 9 = .ok (.getfield 51, 3) := by decide +kernel
theorem dX11_leastCost_12 : decode cX11_leastCost 12 = .ok (.aload_n 0, 1) := by decide +kernel
theorem dX11_leastCost_13 : decode cX11_leastCost 13 = .ok (.getfield 58, 3) := by decide +kernel
theorem dX11_leastCost_16 : decode cX11_leastCost 16 = .ok (.invokevirtual 164, 3) := by decide +kernel
theorem dX11_leastCost_19 : decode cX11_leastCost 19 = .ok (.aload_n 0, 1) := by decide +kernel
theorem dX11_leastCost_20 : decode cX11_leastCost 20 = .ok (.getfield 58, 3) := by decide +kernel
theorem dX11_leastCost_23 : decode cX11_leastCost 23 = .ok (.getfield 168, 3) := by decide +kernel
theorem dX11_leastCost_26 : decode cX11_leastCost 26 = .ok (.ifCond .eq 13, 3) := by decide +kernel
theorem dX11_leastCost_29 : decode cX11_leastCost 29 = .ok (.aload_n 0, 1) := by decide +kernel
theorem dX11_leastCost_30 : decode cX11_leastCost 30 = .ok (.getfield 58, 3) := by decide +kernel
theorem dX11_leastCost_33 : decode cX11_leastCost 33 = .ok (.getfield 184, 3) := by decide +kernel
theorem dX11_leastCost_36 : decode cX11_leastCost 36 = .ok (.goto 5, 3) := by decide +kernel
theorem dX11_leastCost_39 : decode cX11_leastCost 39 = .ok (.bipush (-5), 2) := by decide +kernel
theorem dX11_leastCost_41 : decode cX11_leastCost 41 = .ok (.ireturn, 1) := by decide +kernel
theorem dX11_staysWithout_0 : decode cX11_staysWithout 0 = .ok (.aload_n 0, 1) := by decide +kernel
theorem dX11_staysWithout_1 : decode cX11_staysWithout 1 = .ok (.getfield 51, 3) := by decide +kernel
theorem dX11_staysWithout_4 : decode cX11_staysWithout 4 = .ok (.invokevirtual 157, 3) := by decide +kernel
theorem dX11_staysWithout_7 : decode cX11_staysWithout 7 = .ok (.aload_n 0, 1) := by decide +kernel
theorem dX11_staysWithout_8 : decode cX11_staysWithout 8 = .ok (.getfield 51, 3) := by decide +kernel
theorem dX11_staysWithout_11 : decode cX11_staysWithout 11 = .ok (.iload_n 1, 1) := by decide +kernel
theorem dX11_staysWithout_12 : decode cX11_staysWithout 12 = .ok (.invokevirtual 266, 3) := by decide +kernel
theorem dX11_staysWithout_15 : decode cX11_staysWithout 15 = .ok (.aload_n 0, 1) := by decide +kernel
theorem dX11_staysWithout_16 : decode cX11_staysWithout 16 = .ok (.getfield 58, 3) := by decide +kernel
theorem dX11_staysWithout_19 : decode cX11_staysWithout 19 = .ok (.aload_n 0, 1) := by decide +kernel
theorem dX11_staysWithout_20 : decode cX11_staysWithout 20 = .ok (.getfield 89, 3) := by decide +kernel
theorem dX11_staysWithout_23 : decode cX11_staysWithout 23 = .ok (.invokevirtual 160, 3) := by decide +kernel
theorem dX11_staysWithout_26 : decode cX11_staysWithout 26 = .ok (.aload_n 0, 1) := by decide +kernel
theorem dX11_staysWithout_27 : decode cX11_staysWithout 27 = .ok (.getfield 51, 3) := by decide +kernel
theorem dX11_staysWithout_30 : decode cX11_staysWithout 30 = .ok (.aload_n 0, 1) := by decide +kernel
theorem dX11_staysWithout_31 : decode cX11_staysWithout 31 = .ok (.getfield 58, 3) := by decide +kernel
theorem dX11_staysWithout_34 : decode cX11_staysWithout 34 = .ok (.invokevirtual 164, 3) := by decide +kernel
theorem dX11_staysWithout_37 : decode cX11_staysWithout 37 = .ok (.aload_n 0, 1) := by decide +kernel
theorem dX11_staysWithout_38 : decode cX11_staysWithout 38 = .ok (.getfield 58, 3) := by decide +kernel
theorem dX11_staysWithout_41 : decode cX11_staysWithout 41 = .ok (.getfield 168, 3) := by decide +kernel
theorem dX11_staysWithout_44 : decode cX11_staysWithout 44 = .ok (.ifCond .eq 27, 3) := by decide +kernel
theorem dX11_staysWithout_47 : decode cX11_staysWithout 47 = .ok (.aload_n 0, 1) := by decide +kernel
theorem dX11_staysWithout_48 : decode cX11_staysWithout 48 = .ok (.getfield 26, 3) := by decide +kernel
theorem dX11_staysWithout_51 : decode cX11_staysWithout 51 = .ok (.iload_n 2, 1) := by decide +kernel
theorem dX11_staysWithout_52 : decode cX11_staysWithout 52 = .ok (.aload_n 0, 1) := by decide +kernel
theorem dX11_staysWithout_53 : decode cX11_staysWithout 53 = .ok (.getfield 58, 3) := by decide +kernel
theorem dX11_staysWithout_56 : decode cX11_staysWithout 56 = .ok (.getfield 175, 3) := by decide +kernel
theorem dX11_staysWithout_59 : decode cX11_staysWithout 59 = .ok (.iload_n 2, 1) := by decide +kernel
theorem dX11_staysWithout_60 : decode cX11_staysWithout 60 = .ok (.iaload, 1) := by decide +kernel
theorem dX11_staysWithout_61 : decode cX11_staysWithout 61 = .ok (.invokevirtual 229, 3) := by decide +kernel
theorem dX11_staysWithout_64 : decode cX11_staysWithout 64 = .ok (.ifCond .ne 7, 3) := by decide +kernel
theorem dX11_staysWithout_67 : decode cX11_staysWithout 67 = .ok (.iconst 1, 1) := by decide +kernel
theorem dX11_staysWithout_68 : decode cX11_staysWithout 68 = .ok (.goto 4, 3) := by decide +kernel
theorem dX11_staysWithout_71 : decode cX11_staysWithout 71 = .ok (.iconst 0, 1) := by decide +kernel
theorem dX11_staysWithout_72 : decode cX11_staysWithout 72 = .ok (.ireturn, 1) := by decide +kernel
theorem dX12_init_0 : decode cX12_init 0 = .ok (.aload_n 0, 1) := by decide +kernel
theorem dX12_init_1 : decode cX12_init 1 = .ok (.invokespecial 1, 3) := by decide +kernel
theorem dX12_init_4 : decode cX12_init 4 = .ok (.aload_n 0, 1) := by decide +kernel
theorem dX12_init_5 : decode cX12_init 5 = .ok (.bipush 6, 2) := by decide +kernel
theorem dX12_init_7 : decode cX12_init 7 = .ok (.newarray .int, 2) := by decide +kernel
theorem dX12_init_9 : decode cX12_init 9 = .ok (.putfield 7, 3) := by decide +kernel
theorem dX12_init_12 : decode cX12_init 12 = .ok (.aload_n 0, 1) := by decide +kernel
theorem dX12_init_13 : decode cX12_init 13 = .ok (.bipush 6, 2) := by decide +kernel
theorem dX12_init_15 : decode cX12_init 15 = .ok (.newarray .int, 2) := by decide +kernel
theorem dX12_init_17 : decode cX12_init 17 = .ok (.putfield 13, 3) := by decide +kernel
theorem dX12_init_20 : decode cX12_init 20 = .ok (.aload_n 0, 1) := by decide +kernel
theorem dX12_init_21 : decode cX12_init 21 = .ok (.bipush 6, 2) := by decide +kernel
theorem dX12_init_23 : decode cX12_init 23 = .ok (.newarray .int, 2) := by decide +kernel
theorem dX12_init_25 : decode cX12_init 25 = .ok (.putfield 16, 3) := by decide +kernel
theorem dX12_init_28 : decode cX12_init 28 = .ok (.aload_n 0, 1) := by decide +kernel
theorem dX12_init_29 : decode cX12_init 29 = .ok (.bipush 6, 2) := by decide +kernel
theorem dX12_init_31 : decode cX12_init 31 = .ok (.newarray .int, 2) := by decide +kernel
theorem dX12_init_33 : decode cX12_init 33 = .ok (.putfield 19, 3) := by decide +kernel
theorem dX12_init_36 : decode cX12_init 36 = .ok (.aload_n 0, 1) := by decide +kernel
theorem dX12_init_37 : decode cX12_init 37 = .ok (.bipush 6, 2) := by decide +kernel
theorem dX12_init_39 : decode cX12_init 39 = .ok (.newarray .int, 2) := by decide +kernel
theorem dX12_init_41 : decode cX12_init 41 = .ok (.putfield 22, 3) := by decide +kernel
theorem dX12_init_44 : decode cX12_init 44 = .ok (.aload_n 0, 1) := by decide +kernel
theorem dX12_init_45 : decode cX12_init 45 = .ok (.bipush 6, 2) := by decide +kernel
theorem dX12_init_47 : decode cX12_init 47 = .ok (.newarray .int, 2) := by decide +kernel
theorem dX12_init_49 : decode cX12_init 49 = .ok (.putfield 25, 3) := by decide +kernel
theorem dX12_init_52 : decode cX12_init 52 = .ok (.aload_n 0, 1) := by decide +kernel
theorem dX12_init_53 : decode cX12_init 53 = .ok (.bipush 36, 2) := by decide +kernel
theorem dX12_init_55 : decode cX12_init 55 = .ok (.newarray .int, 2) := by decide +kernel
theorem dX12_init_57 : decode cX12_init 57 = .ok (.putfield 28, 3) := by decide +kernel
theorem dX12_init_60 : decode cX12_init 60 = .ok (.aload_n 0, 1) := by decide +kernel
theorem dX12_init_61 : decode cX12_init 61 = .ok (.bipush 6, 2) := by decide +kernel
theorem dX12_init_63 : decode cX12_init 63 = .ok (.newarray .int, 2) := by decide +kernel
theorem dX12_init_65 : decode cX12_init 65 = .ok (.putfield 31, 3) := by decide +kernel
theorem dX12_init_68 : decode cX12_init 68 = .ok (.aload_n 0, 1) := by decide +kernel
theorem dX12_init_69 : decode cX12_init 69 = .ok (.iconst 4, 1) := by decide +kernel
theorem dX12_init_70 : decode cX12_init 70 = .ok (.newarray .int, 2) := by decide +kernel
theorem dX12_init_72 : decode cX12_init 72 = .ok (.putfield 34, 3) := by decide +kernel
theorem dX12_init_75 : decode cX12_init 75 = .ok (.aload_n 0, 1) := by decide +kernel
theorem dX12_init_76 : decode cX12_init 76 = .ok (.bipush 6, 2) := by decide +kernel
theorem dX12_init_78 : decode cX12_init 78 = .ok (.newarray .int, 2) := by decide +kernel
theorem dX12_init_80 : decode cX12_init 80 = .ok (.putfield 37, 3) := by decide +kernel
theorem dX12_init_83 : decode cX12_init 83 = .ok (.aload_n 0, 1) := by decide +kernel
theorem dX12_init_84 : decode cX12_init 84 = .ok (.bipush 12, 2) := by decide +kernel
theorem dX12_init_86 : decode cX12_init 86 = .ok (.newarray .int, 2) := by decide +kernel
theorem dX12_init_88 : decode cX12_init 88 = .ok (.putfield 40, 3) := by decide +kernel
theorem dX12_init_91 : decode cX12_init 91 = .ok (.aload_n 0, 1) := by decide +kernel
theorem dX12_init_92 : decode cX12_init 92 = .ok (.bipush 12, 2) := by decide +kernel
theorem dX12_init_94 : decode cX12_init 94 = .ok (.newarray .int, 2) := by decide +kernel
theorem dX12_init_96 : decode cX12_init 96 = .ok (.putfield 43, 3) := by decide +kernel
theorem dX12_init_99 : decode cX12_init 99 = .ok (.aload_n 0, 1) := by decide +kernel
theorem dX12_init_100 : decode cX12_init 100 = .ok (.bipush 12, 2) := by decide +kernel
theorem dX12_init_102 : decode cX12_init 102 = .ok (.newarray .int, 2) := by decide +kernel
theorem dX12_init_104 : decode cX12_init 104 = .ok (.putfield 46, 3) := by decide +kernel
theorem dX12_init_107 : decode cX12_init 107 = .ok (.aload_n 0, 1) := by decide +kernel
theorem dX12_init_108 : decode cX12_init 108 = .ok (.bipush 12, 2) := by decide +kernel
theorem dX12_init_110 : decode cX12_init 110 = .ok (.newarray .int, 2) := by decide +kernel
theorem dX12_init_112 : decode cX12_init 112 = .ok (.putfield 49, 3) := by decide +kernel
theorem dX12_init_115 : decode cX12_init 115 = .ok (.aload_n 0, 1) := by decide +kernel
theorem dX12_init_116 : decode cX12_init 116 = .ok (.bipush 18, 2) := by decide +kernel
theorem dX12_init_118 : decode cX12_init 118 = .ok (.newarray .int, 2) := by decide +kernel
theorem dX12_init_120 : decode cX12_init 120 = .ok (.putfield 52, 3) := by decide +kernel
theorem dX12_init_123 : decode cX12_init 123 = .ok (.aload_n 0, 1) := by decide +kernel
theorem dX12_init_124 : decode cX12_init 124 = .ok (.bipush 18, 2) := by decide +kernel
theorem dX12_init_126 : decode cX12_init 126 = .ok (.newarray .int, 2) := by decide +kernel
theorem dX12_init_128 : decode cX12_init 128 = .ok (.putfield 55, 3) := by decide +kernel
theorem dX12_init_131 : decode cX12_init 131 = .ok (.aload_n 0, 1) := by decide +kernel
theorem dX12_init_132 : decode cX12_init 132 = .ok (.bipush (-5), 2) := by decide +kernel
theorem dX12_init_134 : decode cX12_init 134 = .ok (.putfield 58, 3) := by decide +kernel
theorem dX12_init_137 : decode cX12_init 137 = .ok (.aload_n 0, 1) := by decide +kernel
theorem dX12_init_138 : decode cX12_init 138 = .ok (.bipush 8, 2) := by decide +kernel
theorem dX12_init_140 : decode cX12_init 140 = .ok (.newarray .int, 2) := by decide +kernel
theorem dX12_init_142 : decode cX12_init 142 = .ok (.putfield 62, 3) := by decide +kernel
theorem dX12_init_145 : decode cX12_init 145 = .ok (.aload_n 0, 1) := by decide +kernel
theorem dX12_init_146 : decode cX12_init 146 = .ok (.bipush 48, 2) := by decide +kernel
theorem dX12_init_148 : decode cX12_init 148 = .ok (.newarray .int, 2) := by decide +kernel
theorem dX12_init_150 : decode cX12_init 150 = .ok (.putfield 65, 3) := by decide +kernel
theorem dX12_init_153 : decode cX12_init 153 = .ok (.aload_n 0, 1) := by decide +kernel
theorem dX12_init_154 : decode cX12_init 154 = .ok (.bipush 6, 2) := by decide +kernel
theorem dX12_init_156 : decode cX12_init 156 = .ok (.newarray .int, 2) := by decide +kernel
theorem dX12_init_158 : decode cX12_init 158 = .ok (.putfield 68, 3) := by decide +kernel
theorem dX12_init_161 : decode cX12_init 161 = .ok (.aload_n 0, 1) := by decide +kernel
theorem dX12_init_162 : decode cX12_init 162 = .ok (.bipush 6, 2) := by decide +kernel
theorem dX12_init_164 : decode cX12_init 164 = .ok (.newarray .int, 2) := by decide +kernel
theorem dX12_init_166 : decode cX12_init 166 = .ok (.putfield 71, 3) := by decide +kernel
theorem dX12_init_169 : decode cX12_init 169 = .ok (.aload_n 0, 1) := by decide +kernel
theorem dX12_init_170 : decode cX12_init 170 = .ok (.bipush 6, 2) := by decide +kernel
theorem dX12_init_172 : decode cX12_init 172 = .ok (.newarray .int, 2) := by decide +kernel
theorem dX12_init_174 : decode cX12_init 174 = .ok (.putfield 74, 3) := by decide +kernel
theorem dX12_init_177 : decode cX12_init 177 = .ok (.aload_n 0, 1) := by decide +kernel
theorem dX12_init_178 : decode cX12_init 178 = .ok (.bipush 6, 2) := by decide +kernel
theorem dX12_init_180 : decode cX12_init 180 = .ok (.newarray .int, 2) := by decide +kernel
theorem dX12_init_182 : decode cX12_init 182 = .ok (.putfield 77, 3) := by decide +kernel
theorem dX12_init_185 : decode cX12_init 185 = .ok (.aload_n 0, 1) := by decide +kernel
theorem dX12_init_186 : decode cX12_init 186 = .ok (.bipush 6, 2) := by decide +kernel
theorem dX12_init_188 : decode cX12_init 188 = .ok (.newarray .int, 2) := by decide +kernel
theorem dX12_init_190 : decode cX12_init 190 = .ok (.putfield 80, 3) := by decide +kernel
theorem dX12_init_193 : decode cX12_init 193 = .ok (.aload_n 0, 1) := by decide +kernel
theorem dX12_init_194 : decode cX12_init 194 = .ok (.bipush 6, 2) := by decide +kernel
theorem dX12_init_196 : decode cX12_init 196 = .ok (.newarray .int, 2) := by decide +kernel
theorem dX12_init_198 : decode cX12_init 198 = .ok (.putfield 83, 3) := by decide +kernel
theorem dX12_init_201 : decode cX12_init 201 = .ok (.aload_n 0, 1) := by decide +kernel
theorem dX12_init_202 : decode cX12_init 202 = .ok (.bipush 6, 2) := by decide +kernel
theorem dX12_init_204 : decode cX12_init 204 = .ok (.newarray .int, 2) := by decide +kernel
theorem dX12_init_206 : decode cX12_init 206 = .ok (.putfield 86, 3) := by decide +kernel
theorem dX12_init_209 : decode cX12_init 209 = .ok (.aload_n 0, 1) := by decide +kernel
theorem dX12_init_210 : decode cX12_init 210 = .ok (.sipush 4096, 3) := by decide +kernel
theorem dX12_init_213 : decode cX12_init 213 = .ok (.newarray .boolean, 2) := by decide +kernel
theorem dX12_init_215 : decode cX12_init 215 = .ok (.putfield 89, 3) := by decide +kernel
theorem dX12_init_218 : decode cX12_init 218 = .ok (.iconst 0, 1) := by decide +kernel
theorem dX12_init_219 : decode cX12_init 219 = .ok (.istore_n 1, 1) := by decide +kernel
theorem dX12_init_220 : decode cX12_init 220 = .ok (.iload_n 1, 1) := by decide +kernel
theorem dX12_init_221 : decode cX12_init 221 = .ok (.iconst 4, 1) := by decide +kernel
theorem dX12_init_222 : decode cX12_init 222 = .ok (.if_icmp .ge 17, 3) := by decide +kernel
theorem dX12_init_225 : decode cX12_init 225 = .ok (.aload_n 0, 1) := by decide +kernel
theorem dX12_init_226 : decode cX12_init 226 = .ok (.getfield 34, 3) := by decide +kernel
theorem dX12_init_229 : decode cX12_init 229 = .ok (.iload_n 1, 1) := by decide +kernel
theorem dX12_init_230 : decode cX12_init 230 = .ok (.bipush 6, 2) := by decide +kernel
theorem dX12_init_232 : decode cX12_init 232 = .ok (.iastore, 1) := by decide +kernel
theorem dX12_init_233 : decode cX12_init 233 = .ok (.iinc 1 1, 3) := by decide +kernel
theorem dX12_init_236 : decode cX12_init 236 = .ok (.goto (-16), 3) := by decide +kernel
theorem dX12_init_239 : decode cX12_init 239 = .ok (.return_, 1) := by decide +kernel
theorem dX12_out_0 : decode cX12_out 0 = .ok (.iload_n 0, 1) := by decide +kernel
theorem dX12_out_1 : decode cX12_out 1 = .ok (.iload_n 1, 1) := by decide +kernel
theorem dX12_out_2 : decode cX12_out 2 = .ok (.if_icmp .lt 8, 3) := by decide +kernel
theorem dX12_out_5 : decode cX12_out 5 = .ok (.iload_n 0, 1) := by decide +kernel
theorem dX12_out_6 : decode cX12_out 6 = .ok (.iload_n 2, 1) := by decide +kernel
theorem dX12_out_7 : decode cX12_out 7 = .ok (.if_icmp .le 7, 3) := by decide +kernel
theorem dX12_out_10 : decode cX12_out 10 = .ok (.iconst 1, 1) := by decide +kernel
theorem dX12_out_11 : decode cX12_out 11 = .ok (.goto 4, 3) := by decide +kernel
theorem dX12_out_14 : decode cX12_out 14 = .ok (.iconst 0, 1) := by decide +kernel
theorem dX12_out_15 : decode cX12_out 15 = .ok (.ireturn, 1) := by decide +kernel
theorem dX12_noDecision_0 : decode cX12_noDecision 0 = .ok (.iload_n 1, 1) := by decide +kernel
theorem dX12_noDecision_1 : decode cX12_noDecision 1 = .ok (.iconst 0, 1) := by decide +kernel
theorem dX12_noDecision_2 : decode cX12_noDecision 2 = .ok (.aload_n 0, 1) := by decide +kernel
theorem dX12_noDecision_3 : decode cX12_noDecision 3 = .ok (.getfield 93, 3) := by decide +kernel
theorem dX12_noDecision_6 : decode cX12_noDecision 6 = .ok (.iconst 1, 1) := by decide +kernel
theorem dX12_noDecision_7 : decode cX12_noDecision 7 = .ok (.isub, 1) := by decide +kernel
theorem dX12_noDecision_8 : decode cX12_noDecision 8 = .ok (.invokestatic 96, 3) := by decide +kernel
theorem dX12_noDecision_11 : decode cX12_noDecision 11 = .ok (.ireturn, 1) := by decide +kernel
theorem dX12_decision_0 : decode cX12_decision 0 = .ok (.iload_n 1, 1) := by decide +kernel
theorem dX12_decision_1 : decode cX12_decision 1 = .ok (.iconst 0, 1) := by decide +kernel
theorem dX12_decision_2 : decode cX12_decision 2 = .ok (.iconst 5, 1) := by decide +kernel
theorem dX12_decision_3 : decode cX12_decision 3 = .ok (.invokestatic 96, 3) := by decide +kernel
theorem dX12_decision_6 : decode cX12_decision 6 = .ok (.ifCond .ne 26, 3) := by decide +kernel
theorem dX12_decision_9 : decode cX12_decision 9 = .ok (.iload_n 2, 1) := by decide +kernel
theorem dX12_decision_10 : decode cX12_decision 10 = .ok (.iconst 0, 1) := by decide +kernel
theorem dX12_decision_11 : decode cX12_decision 11 = .ok (.iconst 5, 1) := by decide +kernel
theorem dX12_decision_12 : decode cX12_decision 12 = .ok (.invokestatic 96, 3) := by decide +kernel
theorem dX12_decision_15 : decode cX12_decision 15 = .ok (.ifCond .ne 17, 3) := by decide +kernel
theorem dX12_decision_18 : decode cX12_decision 18 = .ok (.iload_n 1, 1) := by decide +kernel
theorem dX12_decision_19 : decode cX12_decision 19 = .ok (.iload_n 2, 1) := by decide +kernel
theorem dX12_decision_20 : decode cX12_decision 20 = .ok (.if_icmp .gt 12, 3) := by decide +kernel
theorem dX12_decision_23 : decode cX12_decision 23 = .ok (.iload_n 3, 1) := by decide +kernel
theorem dX12_decision_24 : decode cX12_decision 24 = .ok (.iconst 0, 1) := by decide +kernel
theorem dX12_decision_25 : decode cX12_decision 25 = .ok (.iconst 3, 1) := by decide +kernel
theorem dX12_decision_26 : decode cX12_decision 26 = .ok (.invokestatic 96, 3) := by decide +kernel
theorem dX12_decision_29 : decode cX12_decision 29 = .ok (.ifCond .eq 6, 3) := by decide +kernel
theorem dX12_decision_32 : decode cX12_decision 32 = .ok (.bipush (-2), 2) := by decide +kernel
theorem dX12_decision_34 : decode cX12_decision 34 = .ok (.ireturn, 1) := by decide +kernel
theorem dX12_decision_35 : decode cX12_decision 35 = .ok (.aload_n 0, 1) := by decide +kernel
theorem dX12_decision_36 : decode cX12_decision 36 = .ok (.getfield 100, 3) := by decide +kernel
theorem dX12_decision_39 : decode cX12_decision 39 = .ok (.ifCond .le 6, 3) := by decide +kernel
theorem dX12_decision_42 : decode cX12_decision 42 = .ok (.bipush (-3), 2) := by decide +kernel
theorem dX12_decision_44 : decode cX12_decision 44 = .ok (.ireturn, 1) := by decide +kernel
theorem dX12_decision_45 : decode cX12_decision 45 = .ok (.aload_n 0, 1) := by decide +kernel
theorem dX12_decision_46 : decode cX12_decision 46 = .ok (.getfield 93, 3) := by decide +kernel
theorem dX12_decision_49 : decode cX12_decision 49 = .ok (.bipush 6, 2) := by decide +kernel
theorem dX12_decision_51 : decode cX12_decision 51 = .ok (.if_icmp .ne 6, 3) := by decide +kernel
theorem dX12_decision_54 : decode cX12_decision 54 = .ok (.bipush (-4), 2) := by decide +kernel
theorem dX12_decision_56 : decode cX12_decision 56 = .ok (.ireturn, 1) := by decide +kernel
theorem dX12_decision_57 : decode cX12_decision 57 = .ok (.aload_n 0, 1) := by decide +kernel
theorem dX12_decision_58 : decode cX12_decision 58 = .ok (.getfield 93, 3) := by decide +kernel
theorem dX12_decision_61 : decode cX12_decision 61 = .ok (.istore 4, 2) := by decide +kernel
theorem dX12_decision_63 : decode cX12_decision 63 = .ok (.aload_n 0, 1) := by decide +kernel
theorem dX12_decision_64 : decode cX12_decision 64 = .ok (.getfield 7, 3) := by decide +kernel
theorem dX12_decision_67 : decode cX12_decision 67 = .ok (.iload 4, 2) := by decide +kernel
theorem dX12_decision_69 : decode cX12_decision 69 = .ok (.iload_n 1, 1) := by decide +kernel
theorem dX12_decision_70 : decode cX12_decision 70 = .ok (.iastore, 1) := by decide +kernel
theorem dX12_decision_71 : decode cX12_decision 71 = .ok (.aload_n 0, 1) := by decide +kernel
theorem dX12_decision_72 : decode cX12_decision 72 = .ok (.getfield 13, 3) := by decide +kernel
theorem dX12_decision_75 : decode cX12_decision 75 = .ok (.iload 4, 2) := by decide +kernel
theorem dX12_decision_77 : decode cX12_decision 77 = .ok (.iload_n 2, 1) := by decide +kernel
theorem dX12_decision_78 : decode cX12_decision 78 = .ok (.iastore, 1) := by decide +kernel
theorem dX12_decision_79 : decode cX12_decision 79 = .ok (.aload_n 0, 1) := by decide +kernel
theorem dX12_decision_80 : decode cX12_decision 80 = .ok (.getfield 16, 3) := by decide +kernel
theorem dX12_decision_83 : decode cX12_decision 83 = .ok (.iload 4, 2) := by decide +kernel
theorem dX12_decision_85 : decode cX12_decision 85 = .ok (.iload_n 3, 1) := by decide +kernel
theorem dX12_decision_86 : decode cX12_decision 86 = .ok (.iastore, 1) := by decide +kernel
theorem dX12_decision_87 : decode cX12_decision 87 = .ok (.aload_n 0, 1) := by decide +kernel
theorem dX12_decision_88 : decode cX12_decision 88 = .ok (.getfield 19, 3) := by decide +kernel
theorem dX12_decision_91 : decode cX12_decision 91 = .ok (.iload 4, 2) := by decide +kernel
theorem dX12_decision_93 : decode cX12_decision 93 = .ok (.iconst 1, 1) := by decide +kernel
theorem dX12_decision_94 : decode cX12_decision 94 = .ok (.iastore, 1) := by decide +kernel
theorem dX12_decision_95 : decode cX12_decision 95 = .ok (.aload_n 0, 1) := by decide +kernel
theorem dX12_decision_96 : decode cX12_decision 96 = .ok (.getfield 22, 3) := by decide +kernel
theorem dX12_decision_99 : decode cX12_decision 99 = .ok (.iload 4, 2) := by decide +kernel
theorem dX12_decision_101 : decode cX12_decision 101 = .ok (.iconst 0, 1) := by decide +kernel
theorem dX12_decision_102 : decode cX12_decision 102 = .ok (.iastore, 1) := by decide +kernel
theorem dX12_decision_103 : decode cX12_decision 103 = .ok (.aload_n 0, 1) := by decide +kernel
theorem dX12_decision_104 : decode cX12_decision 104 = .ok (.getfield 25, 3) := by decide +kernel
theorem dX12_decision_107 : decode cX12_decision 107 = .ok (.iload 4, 2) := by decide +kernel
theorem dX12_decision_109 : decode cX12_decision 109 = .ok (.bipush (-5), 2) := by decide +kernel
theorem dX12_decision_111 : decode cX12_decision 111 = .ok (.iastore, 1) := by decide +kernel
theorem dX12_decision_112 : decode cX12_decision 112 = .ok (.aload_n 0, 1) := by decide +kernel
theorem dX12_decision_113 : decode cX12_decision 113 = .ok (.getfield 31, 3) := by decide +kernel
theorem dX12_decision_116 : decode cX12_decision 116 = .ok (.iload 4, 2) := by decide +kernel
theorem dX12_decision_118 : decode cX12_decision 118 = .ok (.iload_n 1, 1) := by decide +kernel
theorem dX12_decision_119 : decode cX12_decision 119 = .ok (.iastore, 1) := by decide +kernel
theorem dX12_decision_120 : decode cX12_decision 120 = .ok (.aload_n 0, 1) := by decide +kernel
theorem dX12_decision_121 : decode cX12_decision 121 = .ok (.dup, 1) := by decide +kernel
theorem dX12_decision_122 : decode cX12_decision 122 = .ok (.getfield 93, 3) := by decide +kernel
theorem dX12_decision_125 : decode cX12_decision 125 = .ok (.iconst 1, 1) := by decide +kernel
theorem dX12_decision_126 : decode cX12_decision 126 = .ok (.iadd, 1) := by decide +kernel
theorem dX12_decision_127 : decode cX12_decision 127 = .ok (.putfield 93, 3) := by decide +kernel
theorem dX12_decision_130 : decode cX12_decision 130 = .ok (.iload 4, 2) := by decide +kernel
theorem dX12_decision_132 : decode cX12_decision 132 = .ok (.ireturn, 1) := by decide +kernel
theorem dX12_weight_0 : decode cX12_weight 0 = .ok (.aload_n 0, 1) := by decide +kernel
theorem dX12_weight_1 : decode cX12_weight 1 = .ok (.iload_n 1, 1) := by decide +kernel
theorem dX12_weight_2 : decode cX12_weight 2 = .ok (.invokevirtual 103, 3) := by decide +kernel
theorem dX12_weight_5 : decode cX12_weight 5 = .ok (.ifCond .eq 5, 3) := by decide +kernel
theorem dX12_weight_8 : decode cX12_weight 8 = .ok (.iconst (-1), 1) := by decide +kernel
theorem dX12_weight_9 : decode cX12_weight 9 = .ok (.ireturn, 1) := by decide +kernel
theorem dX12_weight_10 : decode cX12_weight 10 = .ok (.iload_n 2, 1) := by decide +kernel
theorem dX12_weight_11 : decode cX12_weight 11 = .ok (.iconst 0, 1) := by decide +kernel
theorem dX12_weight_12 : decode cX12_weight 12 = .ok (.bipush 100, 2) := by decide +kernel
theorem dX12_weight_14 : decode cX12_weight 14 = .ok (.invokestatic 96, 3) := by decide +kernel
theorem dX12_weight_17 : decode cX12_weight 17 = .ok (.ifCond .ne 13, 3) := by decide +kernel
theorem dX12_weight_20 : decode cX12_weight 20 = .ok (.iload_n 3, 1) := by decide +kernel
theorem dX12_weight_21 : decode cX12_weight 21 = .ok (.iconst 0, 1) := by decide +kernel
theorem dX12_weight_22 : decode cX12_weight 22 = .ok (.bipush 20, 2) := by decide +kernel
theorem dX12_weight_24 : decode cX12_weight 24 = .ok (.invokestatic 96, 3) := by decide +kernel
theorem dX12_weight_27 : decode cX12_weight 27 = .ok (.ifCond .eq 6, 3) := by decide +kernel
theorem dX12_weight_30 : decode cX12_weight 30 = .ok (.bipush (-2), 2) := by decide +kernel
theorem dX12_weight_32 : decode cX12_weight 32 = .ok (.ireturn, 1) := by decide +kernel
theorem dX12_weight_33 : decode cX12_weight 33 = .ok (.aload_n 0, 1) := by decide +kernel
theorem dX12_weight_34 : decode cX12_weight 34 = .ok (.getfield 19, 3) := by decide +kernel
theorem dX12_weight_37 : decode cX12_weight 37 = .ok (.iload_n 1, 1) := by decide +kernel
theorem dX12_weight_38 : decode cX12_weight 38 = .ok (.iload_n 2, 1) := by decide +kernel
theorem dX12_weight_39 : decode cX12_weight 39 = .ok (.iastore, 1) := by decide +kernel
theorem dX12_weight_40 : decode cX12_weight 40 = .ok (.aload_n 0, 1) := by decide +kernel
theorem dX12_weight_41 : decode cX12_weight 41 = .ok (.getfield 22, 3) := by decide +kernel
theorem dX12_weight_44 : decode cX12_weight 44 = .ok (.iload_n 1, 1) := by decide +kernel
theorem dX12_weight_45 : decode cX12_weight 45 = .ok (.iload_n 3, 1) := by decide +kernel
theorem dX12_weight_46 : decode cX12_weight 46 = .ok (.iastore, 1) := by decide +kernel
theorem dX12_weight_47 : decode cX12_weight 47 = .ok (.iconst 1, 1) := by decide +kernel
theorem dX12_weight_48 : decode cX12_weight 48 = .ok (.ireturn, 1) := by decide +kernel
theorem dX12_worth_0 : decode cX12_worth 0 = .ok (.aload_n 0, 1) := by decide +kernel
theorem dX12_worth_1 : decode cX12_worth 1 = .ok (.iload_n 1, 1) := by decide +kernel
theorem dX12_worth_2 : decode cX12_worth 2 = .ok (.invokevirtual 103, 3) := by decide +kernel
theorem dX12_worth_5 : decode cX12_worth 5 = .ok (.ifCond .eq 5, 3) := by decide +kernel
theorem dX12_worth_8 : decode cX12_worth 8 = .ok (.iconst (-1), 1) := by decide +kernel
theorem dX12_worth_9 : decode cX12_worth 9 = .ok (.ireturn, 1) := by decide +kernel
theorem dX12_worth_10 : decode cX12_worth 10 = .ok (.iload_n 2, 1) := by decide +kernel
theorem dX12_worth_11 : decode cX12_worth 11 = .ok (.iconst 0, 1) := by decide +kernel
theorem dX12_worth_12 : decode cX12_worth 12 = .ok (.iconst 5, 1) := by decide +kernel
theorem dX12_worth_13 : decode cX12_worth 13 = .ok (.invokestatic 96, 3) := by decide +kernel
theorem dX12_worth_16 : decode cX12_worth 16 = .ok (.ifCond .ne 13, 3) := by decide +kernel
theorem dX12_worth_19 : decode cX12_worth 19 = .ok (.iload_n 3, 1) := by decide +kernel
theorem dX12_worth_20 : decode cX12_worth 20 = .ok (.iconst 0, 1) := by decide +kernel
theorem dX12_worth_21 : decode cX12_worth 21 = .ok (.bipush 100, 2) := by decide +kernel
theorem dX12_worth_23 : decode cX12_worth 23 = .ok (.invokestatic 96, 3) := by decide +kernel
theorem dX12_worth_26 : decode cX12_worth 26 = .ok (.ifCond .eq 6, 3) := by decide +kernel
theorem dX12_worth_29 : decode cX12_worth 29 = .ok (.bipush (-2), 2) := by decide +kernel
theorem dX12_worth_31 : decode cX12_worth 31 = .ok (.ireturn, 1) := by decide +kernel
theorem dX12_worth_32 : decode cX12_worth 32 = .ok (.aload_n 0, 1) := by decide +kernel
theorem dX12_worth_33 : decode cX12_worth 33 = .ok (.getfield 28, 3) := by decide +kernel
theorem dX12_worth_36 : decode cX12_worth 36 = .ok (.bipush 6, 2) := by decide +kernel
theorem dX12_worth_38 : decode cX12_worth 38 = .ok (.iload_n 1, 1) := by decide +kernel
theorem dX12_worth_39 : decode cX12_worth 39 = .ok (.imul, 1) := by decide +kernel
theorem dX12_worth_40 : decode cX12_worth 40 = .ok (.iload_n 2, 1) := by decide +kernel
theorem dX12_worth_41 : decode cX12_worth 41 = .ok (.iadd, 1) := by decide +kernel
theorem dX12_worth_42 : decode cX12_worth 42 = .ok (.iaload, 1) := by decide +kernel
theorem dX12_worth_43 : decode cX12_worth 43 = .ok (.istore 4, 2) := by decide +kernel
theorem dX12_worth_45 : decode cX12_worth 45 = .ok (.aload_n 0, 1) := by decide +kernel
theorem dX12_worth_46 : decode cX12_worth 46 = .ok (.getfield 28, 3) := by decide +kernel
theorem dX12_worth_49 : decode cX12_worth 49 = .ok (.bipush 6, 2) := by decide +kernel
theorem dX12_worth_51 : decode cX12_worth 51 = .ok (.iload_n 1, 1) := by decide +kernel
theorem dX12_worth_52 : decode cX12_worth 52 = .ok (.imul, 1) := by decide +kernel
theorem dX12_worth_53 : decode cX12_worth 53 = .ok (.iload_n 2, 1) := by decide +kernel
theorem dX12_worth_54 : decode cX12_worth 54 = .ok (.iadd, 1) := by decide +kernel
theorem dX12_worth_55 : decode cX12_worth 55 = .ok (.iload_n 3, 1) := by decide +kernel
theorem dX12_worth_56 : decode cX12_worth 56 = .ok (.iastore, 1) := by decide +kernel
theorem dX12_worth_57 : decode cX12_worth 57 = .ok (.iload 4, 2) := by decide +kernel
theorem dX12_worth_59 : decode cX12_worth 59 = .ok (.ireturn, 1) := by decide +kernel
theorem dX12_mayHave_0 : decode cX12_mayHave 0 = .ok (.iload_n 2, 1) := by decide +kernel
theorem dX12_mayHave_1 : decode cX12_mayHave 1 = .ok (.aload_n 0, 1) := by decide +kernel
theorem dX12_mayHave_2 : decode cX12_mayHave 2 = .ok (.getfield 7, 3) := by decide +kernel
theorem dX12_mayHave_5 : decode cX12_mayHave 5 = .ok (.iload_n 1, 1) := by decide +kernel
theorem dX12_mayHave_6 : decode cX12_mayHave 6 = .ok (.iaload, 1) := by decide +kernel
theorem dX12_mayHave_7 : decode cX12_mayHave 7 = .ok (.aload_n 0, 1) := by decide +kernel
theorem dX12_mayHave_8 : decode cX12_mayHave 8 = .ok (.getfield 13, 3) := by decide +kernel
theorem dX12_mayHave_11 : decode cX12_mayHave 11 = .ok (.iload_n 1, 1) := by decide +kernel
theorem dX12_mayHave_12 : decode cX12_mayHave 12 = .ok (.iaload, 1) := by decide +kernel
theorem dX12_mayHave_13 : decode cX12_mayHave 13 = .ok (.invokestatic 96, 3) := by decide +kernel
theorem dX12_mayHave_16 : decode cX12_mayHave 16 = .ok (.ifCond .ne 7, 3) := by decide +kernel
theorem dX12_mayHave_19 : decode cX12_mayHave 19 = .ok (.iconst 1, 1) := by decide +kernel
theorem dX12_mayHave_20 : decode cX12_mayHave 20 = .ok (.goto 4, 3) := by decide +kernel
theorem dX12_mayHave_23 : decode cX12_mayHave 23 = .ok (.iconst 0, 1) := by decide +kernel
theorem dX12_mayHave_24 : decode cX12_mayHave 24 = .ok (.ireturn, 1) := by decide +kernel
theorem dX12_pin_0 : decode cX12_pin 0 = .ok (.aload_n 0, 1) := by decide +kernel
theorem dX12_pin_1 : decode cX12_pin 1 = .ok (.iload_n 1, 1) := by decide +kernel
theorem dX12_pin_2 : decode cX12_pin 2 = .ok (.invokevirtual 103, 3) := by decide +kernel
theorem dX12_pin_5 : decode cX12_pin 5 = .ok (.ifCond .eq 5, 3) := by decide +kernel
theorem dX12_pin_8 : decode cX12_pin 8 = .ok (.iconst (-1), 1) := by decide +kernel
theorem dX12_pin_9 : decode cX12_pin 9 = .ok (.ireturn, 1) := by decide +kernel
theorem dX12_pin_10 : decode cX12_pin 10 = .ok (.iload_n 2, 1) := by decide +kernel
theorem dX12_pin_11 : decode cX12_pin 11 = .ok (.bipush (-5), 2) := by decide +kernel
theorem dX12_pin_13 : decode cX12_pin 13 = .ok (.if_icmp .eq 15, 3) := by decide +kernel
theorem dX12_pin_16 : decode cX12_pin 16 = .ok (.aload_n 0, 1) := by decide +kernel
theorem dX12_pin_17 : decode cX12_pin 17 = .ok (.iload_n 1, 1) := by decide +kernel
theorem dX12_pin_18 : decode cX12_pin 18 = .ok (.iload_n 2, 1) := by decide +kernel
theorem dX12_pin_19 : decode cX12_pin 19 = .ok (.invokevirtual 107, 3) := by decide +kernel
theorem dX12_pin_22 : decode cX12_pin 22 = .ok (.ifCond .ne 6, 3) := by decide +kernel
theorem dX12_pin_25 : decode cX12_pin 25 = .ok (.bipush (-2), 2) := by decide +kernel
theorem dX12_pin_27 : decode cX12_pin 27 = .ok (.ireturn, 1) := by decide +kernel
theorem dX12_pin_28 : decode cX12_pin 28 = .ok (.aload_n 0, 1) := by decide +kernel
theorem dX12_pin_29 : decode cX12_pin 29 = .ok (.getfield 25, 3) := by decide +kernel
theorem dX12_pin_32 : decode cX12_pin 32 = .ok (.iload_n 1, 1) := by decide +kernel
theorem dX12_pin_33 : decode cX12_pin 33 = .ok (.iload_n 2, 1) := by decide +kernel
theorem dX12_pin_34 : decode cX12_pin 34 = .ok (.iastore, 1) := by decide +kernel
theorem dX12_pin_35 : decode cX12_pin 35 = .ok (.iconst 1, 1) := by decide +kernel
theorem dX12_pin_36 : decode cX12_pin 36 = .ok (.ireturn, 1) := by decide +kernel
theorem dX12_limit_0 : decode cX12_limit 0 = .ok (.iload_n 1, 1) := by decide +kernel
theorem dX12_limit_1 : decode cX12_limit 1 = .ok (.iconst 0, 1) := by decide +kernel
theorem dX12_limit_2 : decode cX12_limit 2 = .ok (.iconst 3, 1) := by decide +kernel
theorem dX12_limit_3 : decode cX12_limit 3 = .ok (.invokestatic 96, 3) := by decide +kernel
theorem dX12_limit_6 : decode cX12_limit 6 = .ok (.ifCond .ne 13, 3) := by decide +kernel
theorem dX12_limit_9 : decode cX12_limit 9 = .ok (.iload_n 2, 1) := by decide +kernel
theorem dX12_limit_10 : decode cX12_limit 10 = .ok (.iconst 0, 1) := by decide +kernel
theorem dX12_limit_11 : decode cX12_limit 11 = .ok (.bipush 6, 2) := by decide +kernel
theorem dX12_limit_13 : decode cX12_limit 13 = .ok (.invokestatic 96, 3) := by decide +kernel
theorem dX12_limit_16 : decode cX12_limit 16 = .ok (.ifCond .eq 6, 3) := by decide +kernel
theorem dX12_limit_19 : decode cX12_limit 19 = .ok (.bipush (-2), 2) := by decide +kernel
theorem dX12_limit_21 : decode cX12_limit 21 = .ok (.ireturn, 1) := by decide +kernel
theorem dX12_limit_22 : decode cX12_limit 22 = .ok (.aload_n 0, 1) := by decide +kernel
theorem dX12_limit_23 : decode cX12_limit 23 = .ok (.getfield 34, 3) := by decide +kernel
theorem dX12_limit_26 : decode cX12_limit 26 = .ok (.iload_n 1, 1) := by decide +kernel
theorem dX12_limit_27 : decode cX12_limit 27 = .ok (.iaload, 1) := by decide +kernel
theorem dX12_limit_28 : decode cX12_limit 28 = .ok (.istore_n 3, 1) := by decide +kernel
theorem dX12_limit_29 : decode cX12_limit 29 = .ok (.aload_n 0, 1) := by decide +kernel
theorem dX12_limit_30 : decode cX12_limit 30 = .ok (.getfield 34, 3) := by decide +kernel
theorem dX12_limit_33 : decode cX12_limit 33 = .ok (.iload_n 1, 1) := by decide +kernel
theorem dX12_limit_34 : decode cX12_limit 34 = .ok (.iload_n 2, 1) := by decide +kernel
theorem dX12_limit_35 : decode cX12_limit 35 = .ok (.iastore, 1) := by decide +kernel
theorem dX12_limit_36 : decode cX12_limit 36 = .ok (.iload_n 3, 1) := by decide +kernel
theorem dX12_limit_37 : decode cX12_limit 37 = .ok (.ireturn, 1) := by decide +kernel
theorem dX12_fact_0 : decode cX12_fact 0 = .ok (.iload_n 1, 1) := by decide +kernel
theorem dX12_fact_1 : decode cX12_fact 1 = .ok (.bipush (-20), 2) := by decide +kernel
theorem dX12_fact_3 : decode cX12_fact 3 = .ok (.bipush 20, 2) := by decide +kernel
theorem dX12_fact_5 : decode cX12_fact 5 = .ok (.invokestatic 96, 3) := by decide +kernel
theorem dX12_fact_8 : decode cX12_fact 8 = .ok (.ifCond .eq 6, 3) := by decide +kernel
theorem dX12_fact_11 : decode cX12_fact 11 = .ok (.bipush (-2), 2) := by decide +kernel
theorem dX12_fact_13 : decode cX12_fact 13 = .ok (.ireturn, 1) := by decide +kernel
theorem dX12_fact_14 : decode cX12_fact 14 = .ok (.aload_n 0, 1) := by decide +kernel
theorem dX12_fact_15 : decode cX12_fact 15 = .ok (.getfield 100, 3) := by decide +kernel
theorem dX12_fact_18 : decode cX12_fact 18 = .ok (.ifCond .le 6, 3) := by decide +kernel
theorem dX12_fact_21 : decode cX12_fact 21 = .ok (.bipush (-3), 2) := by decide +kernel
theorem dX12_fact_23 : decode cX12_fact 23 = .ok (.ireturn, 1) := by decide +kernel
theorem dX12_fact_24 : decode cX12_fact 24 = .ok (.aload_n 0, 1) := by decide +kernel
theorem dX12_fact_25 : decode cX12_fact 25 = .ok (.getfield 111, 3) := by decide +kernel
theorem dX12_fact_28 : decode cX12_fact 28 = .ok (.bipush 6, 2) := by decide +kernel
theorem dX12_fact_30 : decode cX12_fact 30 = .ok (.if_icmp .ne 6, 3) := by decide +kernel
theorem dX12_fact_33 : decode cX12_fact 33 = .ok (.bipush (-4), 2) := by decide +kernel
theorem dX12_fact_35 : decode cX12_fact 35 = .ok (.ireturn, 1) := by decide +kernel
theorem dX12_fact_36 : decode cX12_fact 36 = .ok (.aload_n 0, 1) := by decide +kernel
theorem dX12_fact_37 : decode cX12_fact 37 = .ok (.getfield 37, 3) := by decide +kernel
theorem dX12_fact_40 : decode cX12_fact 40 = .ok (.aload_n 0, 1) := by decide +kernel
theorem dX12_fact_41 : decode cX12_fact 41 = .ok (.getfield 111, 3) := by decide +kernel
theorem dX12_fact_44 : decode cX12_fact 44 = .ok (.iload_n 1, 1) := by decide +kernel
theorem dX12_fact_45 : decode cX12_fact 45 = .ok (.iastore, 1) := by decide +kernel
theorem dX12_fact_46 : decode cX12_fact 46 = .ok (.aload_n 0, 1) := by decide +kernel
theorem dX12_fact_47 : decode cX12_fact 47 = .ok (.dup, 1) := by decide +kernel
theorem dX12_fact_48 : decode cX12_fact 48 = .ok (.getfield 111, 3) := by decide +kernel
theorem dX12_fact_51 : decode cX12_fact 51 = .ok (.iconst 1, 1) := by decide +kernel
theorem dX12_fact_52 : decode cX12_fact 52 = .ok (.iadd, 1) := by decide +kernel
theorem dX12_fact_53 : decode cX12_fact 53 = .ok (.putfield 111, 3) := by decide +kernel
theorem dX12_fact_56 : decode cX12_fact 56 = .ok (.aload_n 0, 1) := by decide +kernel
theorem dX12_fact_57 : decode cX12_fact 57 = .ok (.getfield 111, 3) := by decide +kernel
theorem dX12_fact_60 : decode cX12_fact 60 = .ok (.iconst 1, 1) := by decide +kernel
theorem dX12_fact_61 : decode cX12_fact 61 = .ok (.isub, 1) := by decide +kernel
theorem dX12_fact_62 : decode cX12_fact 62 = .ok (.ireturn, 1) := by decide +kernel
theorem dX12_change_0 : decode cX12_change 0 = .ok (.iload_n 1, 1) := by decide +kernel
theorem dX12_change_1 : decode cX12_change 1 = .ok (.iconst 0, 1) := by decide +kernel
theorem dX12_change_2 : decode cX12_change 2 = .ok (.aload_n 0, 1) := by decide +kernel
theorem dX12_change_3 : decode cX12_change 3 = .ok (.getfield 111, 3) := by decide +kernel
theorem dX12_change_6 : decode cX12_change 6 = .ok (.iconst 1, 1) := by decide +kernel
theorem dX12_change_7 : decode cX12_change 7 = .ok (.isub, 1) := by decide +kernel
theorem dX12_change_8 : decode cX12_change 8 = .ok (.invokestatic 96, 3) := by decide +kernel
theorem dX12_change_11 : decode cX12_change 11 = .ok (.ifCond .eq 5, 3) := by decide +kernel
theorem dX12_change_14 : decode cX12_change 14 = .ok (.iconst (-1), 1) := by decide +kernel
theorem dX12_change_15 : decode cX12_change 15 = .ok (.ireturn, 1) := by decide +kernel
theorem dX12_change_16 : decode cX12_change 16 = .ok (.iload_n 2, 1) := by decide +kernel
theorem dX12_change_17 : decode cX12_change 17 = .ok (.bipush (-20), 2) := by decide +kernel
theorem dX12_change_19 : decode cX12_change 19 = .ok (.bipush 20, 2) := by decide +kernel
theorem dX12_change_21 : decode cX12_change 21 = .ok (.invokestatic 96, 3) := by decide +kernel
theorem dX12_change_24 : decode cX12_change 24 = .ok (.ifCond .eq 6, 3) := by decide +kernel
theorem dX12_change_27 : decode cX12_change 27 = .ok (.bipush (-2), 2) := by decide +kernel
theorem dX12_change_29 : decode cX12_change 29 = .ok (.ireturn, 1) := by decide +kernel
theorem dX12_change_30 : decode cX12_change 30 = .ok (.aload_n 0, 1) := by decide +kernel
theorem dX12_change_31 : decode cX12_change 31 = .ok (.getfield 37, 3) := by decide +kernel
theorem dX12_change_34 : decode cX12_change 34 = .ok (.iload_n 1, 1) := by decide +kernel
theorem dX12_change_35 : decode cX12_change 35 = .ok (.iaload, 1) := by decide +kernel
theorem dX12_change_36 : decode cX12_change 36 = .ok (.istore_n 3, 1) := by decide +kernel
theorem dX12_change_37 : decode cX12_change 37 = .ok (.aload_n 0, 1) := by decide +kernel
theorem dX12_change_38 : decode cX12_change 38 = .ok (.getfield 37, 3) := by decide +kernel
theorem dX12_change_41 : decode cX12_change 41 = .ok (.iload_n 1, 1) := by decide +kernel
theorem dX12_change_42 : decode cX12_change 42 = .ok (.iload_n 2, 1) := by decide +kernel
theorem dX12_change_43 : decode cX12_change 43 = .ok (.iastore, 1) := by decide +kernel
theorem dX12_change_44 : decode cX12_change 44 = .ok (.iload_n 3, 1) := by decide +kernel
theorem dX12_change_45 : decode cX12_change 45 = .ok (.ireturn, 1) := by decide +kernel
theorem dX12_rule_0 : decode cX12_rule 0 = .ok (.iload_n 1, 1) := by decide +kernel
theorem dX12_rule_1 : decode cX12_rule 1 = .ok (.iconst 0, 1) := by decide +kernel
theorem dX12_rule_2 : decode cX12_rule 2 = .ok (.iconst 5, 1) := by decide +kernel
theorem dX12_rule_3 : decode cX12_rule 3 = .ok (.invokestatic 96, 3) := by decide +kernel
theorem dX12_rule_6 : decode cX12_rule 6 = .ok (.ifCond .ne 17, 3) := by decide +kernel
theorem dX12_rule_9 : decode cX12_rule 9 = .ok (.iload_n 1, 1) := by decide +kernel
theorem dX12_rule_10 : decode cX12_rule 10 = .ok (.iconst 5, 1) := by decide +kernel
theorem dX12_rule_11 : decode cX12_rule 11 = .ok (.if_icmp .ne 15, 3) := by decide +kernel
theorem dX12_rule_14 : decode cX12_rule 14 = .ok (.iload_n 3, 1) := by decide +kernel
theorem dX12_rule_15 : decode cX12_rule 15 = .ok (.iconst 0, 1) := by decide +kernel
theorem dX12_rule_16 : decode cX12_rule 16 = .ok (.iconst 5, 1) := by decide +kernel
theorem dX12_rule_17 : decode cX12_rule 17 = .ok (.invokestatic 96, 3) := by decide +kernel
theorem dX12_rule_20 : decode cX12_rule 20 = .ok (.ifCond .eq 6, 3) := by decide +kernel
theorem dX12_rule_23 : decode cX12_rule 23 = .ok (.bipush (-2), 2) := by decide +kernel
theorem dX12_rule_25 : decode cX12_rule 25 = .ok (.ireturn, 1) := by decide +kernel
theorem dX12_rule_26 : decode cX12_rule 26 = .ok (.iload_n 1, 1) := by decide +kernel
theorem dX12_rule_27 : decode cX12_rule 27 = .ok (.iconst 5, 1) := by decide +kernel
theorem dX12_rule_28 : decode cX12_rule 28 = .ok (.if_icmp .ge 19, 3) := by decide +kernel
theorem dX12_rule_31 : decode cX12_rule 31 = .ok (.aload_n 0, 1) := by decide +kernel
theorem dX12_rule_32 : decode cX12_rule 32 = .ok (.iload_n 2, 1) := by decide +kernel
theorem dX12_rule_33 : decode cX12_rule 33 = .ok (.invokevirtual 103, 3) := by decide +kernel
theorem dX12_rule_36 : decode cX12_rule 36 = .ok (.ifCond .ne 26, 3) := by decide +kernel
theorem dX12_rule_39 : decode cX12_rule 39 = .ok (.aload_n 0, 1) := by decide +kernel
theorem dX12_rule_40 : decode cX12_rule 40 = .ok (.iload_n 3, 1) := by decide +kernel
theorem dX12_rule_41 : decode cX12_rule 41 = .ok (.invokevirtual 103, 3) := by decide +kernel
theorem dX12_rule_44 : decode cX12_rule 44 = .ok (.ifCond .ne 18, 3) := by decide +kernel
theorem dX12_rule_47 : decode cX12_rule 47 = .ok (.iload 4, 2) := by decide +kernel
theorem dX12_rule_49 : decode cX12_rule 49 = .ok (.iconst 0, 1) := by decide +kernel
theorem dX12_rule_50 : decode cX12_rule 50 = .ok (.aload_n 0, 1) := by decide +kernel
theorem dX12_rule_51 : decode cX12_rule 51 = .ok (.getfield 111, 3) := by decide +kernel
theorem dX12_rule_54 : decode cX12_rule 54 = .ok (.iconst 1, 1) := by decide +kernel
theorem dX12_rule_55 : decode cX12_rule 55 = .ok (.isub, 1) := by decide +kernel
theorem dX12_rule_56 : decode cX12_rule 56 = .ok (.invokestatic 96, 3) := by decide +kernel
theorem dX12_rule_59 : decode cX12_rule 59 = .ok (.ifCond .eq 5, 3) := by decide +kernel
theorem dX12_rule_62 : decode cX12_rule 62 = .ok (.iconst (-1), 1) := by decide +kernel
theorem dX12_rule_63 : decode cX12_rule 63 = .ok (.ireturn, 1) := by decide +kernel
theorem dX12_rule_64 : decode cX12_rule 64 = .ok (.aload_n 0, 1) := by decide +kernel
theorem dX12_rule_65 : decode cX12_rule 65 = .ok (.getfield 114, 3) := by decide +kernel
theorem dX12_rule_68 : decode cX12_rule 68 = .ok (.bipush 12, 2) := by decide +kernel
theorem dX12_rule_70 : decode cX12_rule 70 = .ok (.if_icmp .ne 6, 3) := by decide +kernel
theorem dX12_rule_73 : decode cX12_rule 73 = .ok (.bipush (-4), 2) := by decide +kernel
theorem dX12_rule_75 : decode cX12_rule 75 = .ok (.ireturn, 1) := by decide +kernel
theorem dX12_rule_76 : decode cX12_rule 76 = .ok (.aload_n 0, 1) := by decide +kernel
theorem dX12_rule_77 : decode cX12_rule 77 = .ok (.getfield 40, 3) := by decide +kernel
theorem dX12_rule_80 : decode cX12_rule 80 = .ok (.aload_n 0, 1) := by decide +kernel
theorem dX12_rule_81 : decode cX12_rule 81 = .ok (.getfield 114, 3) := by decide +kernel
theorem dX12_rule_84 : decode cX12_rule 84 = .ok (.iload_n 1, 1) := by decide +kernel
theorem dX12_rule_85 : decode cX12_rule 85 = .ok (.iastore, 1) := by decide +kernel
theorem dX12_rule_86 : decode cX12_rule 86 = .ok (.aload_n 0, 1) := by decide +kernel
theorem dX12_rule_87 : decode cX12_rule 87 = .ok (.getfield 43, 3) := by decide +kernel
theorem dX12_rule_90 : decode cX12_rule 90 = .ok (.aload_n 0, 1) := by decide +kernel
theorem dX12_rule_91 : decode cX12_rule 91 = .ok (.getfield 114, 3) := by decide +kernel
theorem dX12_rule_94 : decode cX12_rule 94 = .ok (.iload_n 2, 1) := by decide +kernel
theorem dX12_rule_95 : decode cX12_rule 95 = .ok (.iastore, 1) := by decide +kernel
theorem dX12_rule_96 : decode cX12_rule 96 = .ok (.aload_n 0, 1) := by decide +kernel
theorem dX12_rule_97 : decode cX12_rule 97 = .ok (.getfield 46, 3) := by decide +kernel
theorem dX12_rule_100 : decode cX12_rule 100 = .ok (.aload_n 0, 1) := by decide +kernel
theorem dX12_rule_101 : decode cX12_rule 101 = .ok (.getfield 114, 3) := by decide +kernel
theorem dX12_rule_104 : decode cX12_rule 104 = .ok (.iload_n 3, 1) := by decide +kernel
theorem dX12_rule_105 : decode cX12_rule 105 = .ok (.iastore, 1) := by decide +kernel
theorem dX12_rule_106 : decode cX12_rule 106 = .ok (.aload_n 0, 1) := by decide +kernel
theorem dX12_rule_107 : decode cX12_rule 107 = .ok (.getfield 49, 3) := by decide +kernel
theorem dX12_rule_110 : decode cX12_rule 110 = .ok (.aload_n 0, 1) := by decide +kernel
theorem dX12_rule_111 : decode cX12_rule 111 = .ok (.getfield 114, 3) := by decide +kernel
theorem dX12_rule_114 : decode cX12_rule 114 = .ok (.iload 4, 2) := by decide +kernel
theorem dX12_rule_116 : decode cX12_rule 116 = .ok (.iastore, 1) := by decide +kernel
theorem dX12_rule_117 : decode cX12_rule 117 = .ok (.aload_n 0, 1) := by decide +kernel
theorem dX12_rule_118 : decode cX12_rule 118 = .ok (.dup, 1) := by decide +kernel
theorem dX12_rule_119 : decode cX12_rule 119 = .ok (.getfield 114, 3) := by decide +kernel
theorem dX12_rule_122 : decode cX12_rule 122 = .ok (.iconst 1, 1) := by decide +kernel
theorem dX12_rule_123 : decode cX12_rule 123 = .ok (.iadd, 1) := by decide +kernel
theorem dX12_rule_124 : decode cX12_rule 124 = .ok (.putfield 114, 3) := by decide +kernel
theorem dX12_rule_127 : decode cX12_rule 127 = .ok (.aload_n 0, 1) := by decide +kernel
theorem dX12_rule_128 : decode cX12_rule 128 = .ok (.getfield 114, 3) := by decide +kernel
theorem dX12_rule_131 : decode cX12_rule 131 = .ok (.iconst 1, 1) := by decide +kernel
theorem dX12_rule_132 : decode cX12_rule 132 = .ok (.isub, 1) := by decide +kernel
theorem dX12_rule_133 : decode cX12_rule 133 = .ok (.ireturn, 1) := by decide +kernel
theorem dX12_first_0 : decode cX12_first 0 = .ok (.iload_n 1, 1) := by decide +kernel
theorem dX12_first_1 : decode cX12_first 1 = .ok (.iconst 0, 1) := by decide +kernel
theorem dX12_first_2 : decode cX12_first 2 = .ok (.iconst 1, 1) := by decide +kernel
theorem dX12_first_3 : decode cX12_first 3 = .ok (.invokestatic 96, 3) := by decide +kernel
theorem dX12_first_6 : decode cX12_first 6 = .ok (.ifCond .eq 6, 3) := by decide +kernel
theorem dX12_first_9 : decode cX12_first 9 = .ok (.bipush (-2), 2) := by decide +kernel
theorem dX12_first_11 : decode cX12_first 11 = .ok (.ireturn, 1) := by decide +kernel
theorem dX12_first_12 : decode cX12_first 12 = .ok (.aload_n 0, 1) := by decide +kernel
theorem dX12_first_13 : decode cX12_first 13 = .ok (.getfield 117, 3) := by decide +kernel
theorem dX12_first_16 : decode cX12_first 16 = .ok (.istore_n 2, 1) := by decide +kernel
theorem dX12_first_17 : decode cX12_first 17 = .ok (.aload_n 0, 1) := by decide +kernel
theorem dX12_first_18 : decode cX12_first 18 = .ok (.iload_n 1, 1) := by decide +kernel
theorem dX12_first_19 : decode cX12_first 19 = .ok (.putfield 117, 3) := by decide +kernel
theorem dX12_first_22 : decode cX12_first 22 = .ok (.iload_n 2, 1) := by decide +kernel
theorem dX12_first_23 : decode cX12_first 23 = .ok (.ireturn, 1) := by decide +kernel
theorem dX12_keeps_0 : decode cX12_keeps 0 = .ok (.aload_n 0, 1) := by decide +kernel
theorem dX12_keeps_1 : decode cX12_keeps 1 = .ok (.getfield 37, 3) := by decide +kernel
theorem dX12_keeps_4 : decode cX12_keeps 4 = .ok (.aload_n 0, 1) := by decide +kernel
theorem dX12_keeps_5 : decode cX12_keeps 5 = .ok (.getfield 49, 3) := by decide +kernel
theorem dX12_keeps_8 : decode cX12_keeps 8 = .ok (.iload_n 2, 1) := by decide +kernel
theorem dX12_keeps_9 : decode cX12_keeps 9 = .ok (.iaload, 1) := by decide +kernel
theorem dX12_keeps_10 : decode cX12_keeps 10 = .ok (.iaload, 1) := by decide +kernel
theorem dX12_keeps_11 : decode cX12_keeps 11 = .ok (.istore_n 3, 1) := by decide +kernel
theorem dX12_keeps_12 : decode cX12_keeps 12 = .ok (.aload_n 0, 1) := by decide +kernel
theorem dX12_keeps_13 : decode cX12_keeps 13 = .ok (.getfield 40, 3) := by decide +kernel
theorem dX12_keeps_16 : decode cX12_keeps 16 = .ok (.iload_n 2, 1) := by decide +kernel
theorem dX12_keeps_17 : decode cX12_keeps 17 = .ok (.iaload, 1) := by decide +kernel
theorem dX12_keeps_18 : decode cX12_keeps 18 = .ok (.iconst 5, 1) := by decide +kernel
theorem dX12_keeps_19 : decode cX12_keeps 19 = .ok (.if_icmp .ne 59, 3) := by decide +kernel
theorem dX12_keeps_22 : decode cX12_keeps 22 = .ok (.iconst 0, 1) := by decide +kernel
theorem dX12_keeps_23 : decode cX12_keeps 23 = .ok (.istore 4, 2) := by decide +kernel
theorem dX12_keeps_25 : decode cX12_keeps 25 = .ok (.iconst 0, 1) := by decide +kernel
theorem dX12_keeps_26 : decode cX12_keeps 26 = .ok (.istore 5, 2) := by decide +kernel
theorem dX12_keeps_28 : decode cX12_keeps 28 = .ok (.iload 5, 2) := by decide +kernel
theorem dX12_keeps_30 : decode cX12_keeps 30 = .ok (.aload_n 0, 1) := by decide +kernel
theorem dX12_keeps_31 : decode cX12_keeps 31 = .ok (.getfield 93, 3) := by decide +kernel
theorem dX12_keeps_34 : decode cX12_keeps 34 = .ok (.if_icmp .ge 32, 3) := by decide +kernel
theorem dX12_keeps_37 : decode cX12_keeps 37 = .ok (.iload 4, 2) := by decide +kernel
theorem dX12_keeps_39 : decode cX12_keeps 39 = .ok (.aload_n 1, 1) := by decide +kernel
theorem dX12_keeps_40 : decode cX12_keeps 40 = .ok (.iload 5, 2) := by decide +kernel
theorem dX12_keeps_42 : decode cX12_keeps 42 = .ok (.iaload, 1) := by decide +kernel
theorem dX12_keeps_43 : decode cX12_keeps 43 = .ok (.aload_n 0, 1) := by decide +kernel
theorem dX12_keeps_44 : decode cX12_keeps 44 = .ok (.getfield 46, 3) := by decide +kernel
theorem dX12_keeps_47 : decode cX12_keeps 47 = .ok (.iload_n 2, 1) := by decide +kernel
theorem dX12_keeps_48 : decode cX12_keeps 48 = .ok (.iaload, 1) := by decide +kernel
theorem dX12_keeps_49 : decode cX12_keeps 49 = .ok (.if_icmp .ne 7, 3) := by decide +kernel
theorem dX12_keeps_52 : decode cX12_keeps 52 = .ok (.iconst 1, 1) := by decide +kernel
theorem dX12_keeps_53 : decode cX12_keeps 53 = .ok (.goto 4, 3) := by decide +kernel
theorem dX12_keeps_56 : decode cX12_keeps 56 = .ok (.iconst 0, 1) := by decide +kernel
theorem dX12_keeps_57 : decode cX12_keeps 57 = .ok (.iadd, 1) := by decide +kernel
theorem dX12_keeps_58 : decode cX12_keeps 58 = .ok (.istore 4, 2) := by decide +kernel
theorem dX12_keeps_60 : decode cX12_keeps 60 = .ok (.iinc 5 1, 3) := by decide +kernel
theorem dX12_keeps_63 : decode cX12_keeps 63 = .ok (.goto (-35), 3) := by decide +kernel
theorem dX12_keeps_66 : decode cX12_keeps 66 = .ok (.iload 4, 2) := by decide +kernel
theorem dX12_keeps_68 : decode cX12_keeps 68 = .ok (.iload_n 3, 1) := by decide +kernel
theorem dX12_keeps_69 : decode cX12_keeps 69 = .ok (.if_icmp .gt 7, 3) := by decide +kernel
theorem dX12_keeps_72 : decode cX12_keeps 72 = .ok (.iconst 1, 1) := by decide +kernel
theorem dX12_keeps_73 : decode cX12_keeps 73 = .ok (.goto 4, 3) := by decide +kernel
theorem dX12_keeps_76 : decode cX12_keeps 76 = .ok (.iconst 0, 1) := by decide +kernel
theorem dX12_keeps_77 : decode cX12_keeps 77 = .ok (.ireturn, 1) := by decide +kernel
theorem dX12_keeps_78 : decode cX12_keeps 78 = .ok (.aload_n 1, 1) := by decide +kernel
theorem dX12_keeps_79 : decode cX12_keeps 79 = .ok (.aload_n 0, 1) := by decide +kernel
theorem dX12_keeps_80 : decode cX12_keeps 80 = .ok (.getfield 43, 3) := by decide +kernel
theorem dX12_keeps_83 : decode cX12_keeps 83 = .ok (.iload_n 2, 1) := by decide +kernel
theorem dX12_keeps_84 : decode cX12_keeps 84 = .ok (.iaload, 1) := by decide +kernel
theorem dX12_keeps_85 : decode cX12_keeps 85 = .ok (.iaload, 1) := by decide +kernel
theorem dX12_keeps_86 : decode cX12_keeps 86 = .ok (.istore 4, 2) := by decide +kernel
theorem dX12_keeps_88 : decode cX12_keeps 88 = .ok (.aload_n 1, 1) := by decide +kernel
theorem dX12_keeps_89 : decode cX12_keeps 89 = .ok (.aload_n 0, 1) := by decide +kernel
theorem dX12_keeps_90 : decode cX12_keeps 90 = .ok (.getfield 46, 3) := by decide +kernel
theorem dX12_keeps_93 : decode cX12_keeps 93 = .ok (.iload_n 2, 1) := by decide +kernel
theorem dX12_keeps_94 : decode cX12_keeps 94 = .ok (.iaload, 1) := by decide +kernel
theorem dX12_keeps_95 : decode cX12_keeps 95 = .ok (.iaload, 1) := by decide +kernel
theorem dX12_keeps_96 : decode cX12_keeps 96 = .ok (.istore 5, 2) := by decide +kernel
theorem dX12_keeps_98 : decode cX12_keeps 98 = .ok (.iload 4, 2) := by decide +kernel
theorem dX12_keeps_100 : decode cX12_keeps 100 = .ok (.iload 5, 2) := by decide +kernel
theorem dX12_keeps_102 : decode cX12_keeps 102 = .ok (.if_icmp .le 11, 3) := by decide +kernel
theorem dX12_keeps_105 : decode cX12_keeps 105 = .ok (.iload 4, 2) := by decide +kernel
theorem dX12_keeps_107 : decode cX12_keeps 107 = .ok (.iload 5, 2) := by decide +kernel
theorem dX12_keeps_109 : decode cX12_keeps 109 = .ok (.isub, 1) := by decide +kernel
theorem dX12_keeps_110 : decode cX12_keeps 110 = .ok (.goto 8, 3) := by decide +kernel
theorem dX12_keeps_113 : decode cX12_keeps 113 = .ok (.iload 5, 2) := by decide +kernel
theorem dX12_keeps_115 : decode cX12_keeps 115 = .ok (.iload 4, 2) := by decide +kernel
theorem dX12_keeps_117 : decode cX12_keeps 117 = .ok (.isub, 1) := by decide +kernel
theorem dX12_keeps_118 : decode cX12_keeps 118 = .ok (.istore 6, 2) := by decide +kernel
theorem dX12_keeps_120 : decode cX12_keeps 120 = .ok (.aload_n 0, 1) := by decide +kernel
theorem dX12_keeps_121 : decode cX12_keeps 121 = .ok (.getfield 40, 3) := by decide +kernel
theorem dX12_keeps_124 : decode cX12_keeps 124 = .ok (.iload_n 2, 1) := by decide +kernel
theorem dX12_keeps_125 : decode cX12_keeps 125 = .ok (.iaload, 1) := by decide +kernel
theorem dX12_keeps_126 : decode cX12_keeps 126 = .ok (.tableswitch 87 0 3 #[30, 45, 60, 75], 30) := by decide +kernel
theorem dX12_keeps_156 : decode cX12_keeps 156 = .ok (.iload 4, 2) := by decide +kernel
theorem dX12_keeps_158 : decode cX12_keeps 158 = .ok (.iload 5, 2) := by decide +kernel
theorem dX12_keeps_160 : decode cX12_keeps 160 = .ok (.isub, 1) := by decide +kernel
theorem dX12_keeps_161 : decode cX12_keeps 161 = .ok (.iload_n 3, 1) := by decide +kernel
theorem dX12_keeps_162 : decode cX12_keeps 162 = .ok (.if_icmp .gt 7, 3) := by decide +kernel
theorem dX12_keeps_165 : decode cX12_keeps 165 = .ok (.iconst 1, 1) := by decide +kernel
theorem dX12_keeps_166 : decode cX12_keeps 166 = .ok (.goto 4, 3) := by decide +kernel
theorem dX12_keeps_169 : decode cX12_keeps 169 = .ok (.iconst 0, 1) := by decide +kernel
theorem dX12_keeps_170 : decode cX12_keeps 170 = .ok (.ireturn, 1) := by decide +kernel
theorem dX12_keeps_171 : decode cX12_keeps 171 = .ok (.iload 4, 2) := by decide +kernel
theorem dX12_keeps_173 : decode cX12_keeps 173 = .ok (.iload 5, 2) := by decide +kernel
theorem dX12_keeps_175 : decode cX12_keeps 175 = .ok (.iadd, 1) := by decide +kernel
theorem dX12_keeps_176 : decode cX12_keeps 176 = .ok (.iload_n 3, 1) := by decide +kernel
theorem dX12_keeps_177 : decode cX12_keeps 177 = .ok (.if_icmp .gt 7, 3) := by decide +kernel
theorem dX12_keeps_180 : decode cX12_keeps 180 = .ok (.iconst 1, 1) := by decide +kernel
theorem dX12_keeps_181 : decode cX12_keeps 181 = .ok (.goto 4, 3) := by decide +kernel
theorem dX12_keeps_184 : decode cX12_keeps 184 = .ok (.iconst 0, 1) := by decide +kernel
theorem dX12_keeps_185 : decode cX12_keeps 185 = .ok (.ireturn, 1) := by decide +kernel
theorem dX12_keeps_186 : decode cX12_keeps 186 = .ok (.iload 4, 2) := by decide +kernel
theorem dX12_keeps_188 : decode cX12_keeps 188 = .ok (.iload 5, 2) := by decide +kernel
theorem dX12_keeps_190 : decode cX12_keeps 190 = .ok (.iadd, 1) := by decide +kernel
theorem dX12_keeps_191 : decode cX12_keeps 191 = .ok (.iload_n 3, 1) := by decide +kernel
theorem dX12_keeps_192 : decode cX12_keeps 192 = .ok (.if_icmp .lt 7, 3) := by decide +kernel
theorem dX12_keeps_195 : decode cX12_keeps 195 = .ok (.iconst 1, 1) := by decide +kernel
theorem dX12_keeps_196 : decode cX12_keeps 196 = .ok (.goto 4, 3) := by decide +kernel
theorem dX12_keeps_199 : decode cX12_keeps 199 = .ok (.iconst 0, 1) := by decide +kernel
theorem dX12_keeps_200 : decode cX12_keeps 200 = .ok (.ireturn, 1) := by decide +kernel
theorem dX12_keeps_201 : decode cX12_keeps 201 = .ok (.iload 6, 2) := by decide +kernel
theorem dX12_keeps_203 : decode cX12_keeps 203 = .ok (.iload_n 3, 1) := by decide +kernel
theorem dX12_keeps_204 : decode cX12_keeps 204 = .ok (.if_icmp .lt 7, 3) := by decide +kernel
theorem dX12_keeps_207 : decode cX12_keeps 207 = .ok (.iconst 1, 1) := by decide +kernel
theorem dX12_keeps_208 : decode cX12_keeps 208 = .ok (.goto 4, 3) := by decide +kernel
theorem dX12_keeps_211 : decode cX12_keeps 211 = .ok (.iconst 0, 1) := by decide +kernel
theorem dX12_keeps_212 : decode cX12_keeps 212 = .ok (.ireturn, 1) := by decide +kernel
theorem dX12_keeps_213 : decode cX12_keeps 213 = .ok (.iload 6, 2) := by decide +kernel
theorem dX12_keeps_215 : decode cX12_keeps 215 = .ok (.iload_n 3, 1) := by decide +kernel
theorem dX12_keeps_216 : decode cX12_keeps 216 = .ok (.if_icmp .gt 7, 3) := by decide +kernel
theorem dX12_keeps_219 : decode cX12_keeps 219 = .ok (.iconst 1, 1) := by decide +kernel
theorem dX12_keeps_220 : decode cX12_keeps 220 = .ok (.goto 4, 3) := by decide +kernel
theorem dX12_keeps_223 : decode cX12_keeps 223 = .ok (.iconst 0, 1) := by decide +kernel
theorem dX12_keeps_224 : decode cX12_keeps 224 = .ok (.ireturn, 1) := by decide +kernel
theorem dX12_brokenOf_0 : decode cX12_brokenOf 0 = .ok (.iconst 0, 1) := by decide +kernel
theorem dX12_brokenOf_1 : decode cX12_brokenOf 1 = .ok (.istore_n 2, 1) := by decide +kernel
theorem dX12_brokenOf_2 : decode cX12_brokenOf 2 = .ok (.iconst 0, 1) := by decide +kernel
theorem dX12_brokenOf_3 : decode cX12_brokenOf 3 = .ok (.istore_n 3, 1) := by decide +kernel
theorem dX12_brokenOf_4 : decode cX12_brokenOf 4 = .ok (.iload_n 3, 1) := by decide +kernel
theorem dX12_brokenOf_5 : decode cX12_brokenOf 5 = .ok (.aload_n 0, 1) := by decide +kernel
theorem dX12_brokenOf_6 : decode cX12_brokenOf 6 = .ok (.getfield 114, 3) := by decide +kernel
theorem dX12_brokenOf_9 : decode cX12_brokenOf 9 = .ok (.if_icmp .ge 28, 3) := by decide +kernel
theorem dX12_brokenOf_12 : decode cX12_brokenOf 12 = .ok (.iload_n 2, 1) := by decide +kernel
theorem dX12_brokenOf_13 : decode cX12_brokenOf 13 = .ok (.aload_n 0, 1) := by decide +kernel
theorem dX12_brokenOf_14 : decode cX12_brokenOf 14 = .ok (.aload_n 1, 1) := by decide +kernel
theorem dX12_brokenOf_15 : decode cX12_brokenOf 15 = .ok (.iload_n 3, 1) := by decide +kernel
theorem dX12_brokenOf_16 : decode cX12_brokenOf 16 = .ok (.invokevirtual 120, 3) := by decide +kernel
theorem dX12_brokenOf_19 : decode cX12_brokenOf 19 = .ok (.ifCond .eq 7, 3) := by decide +kernel
theorem dX12_brokenOf_22 : decode cX12_brokenOf 22 = .ok (.iconst 0, 1) := by decide +kernel
theorem dX12_brokenOf_23 : decode cX12_brokenOf 23 = .ok (.goto 6, 3) := by decide +kernel
theorem dX12_brokenOf_26 : decode cX12_brokenOf 26 = .ok (.iconst 1, 1) := by decide +kernel
theorem dX12_brokenOf_27 : decode cX12_brokenOf 27 = .ok (.iload_n 3, 1) := by decide +kernel
theorem dX12_brokenOf_28 : decode cX12_brokenOf 28 = .ok (.ishl, 1) := by decide +kernel
theorem dX12_brokenOf_29 : decode cX12_brokenOf 29 = .ok (.ior, 1) := by decide +kernel
theorem dX12_brokenOf_30 : decode cX12_brokenOf 30 = .ok (.istore_n 2, 1) := by decide +kernel
theorem dX12_brokenOf_31 : decode cX12_brokenOf 31 = .ok (.iinc 3 1, 3) := by decide +kernel
theorem dX12_brokenOf_34 : decode cX12_brokenOf 34 = .ok (.goto (-30), 3) := by decide +kernel
theorem dX12_brokenOf_37 : decode cX12_brokenOf 37 = .ok (.iload_n 2, 1) := by decide +kernel
theorem dX12_brokenOf_38 : decode cX12_brokenOf 38 = .ok (.ireturn, 1) := by decide +kernel
theorem dX12_isMoved_0 : decode cX12_isMoved 0 = .ok (.aload_n 0, 1) := by decide +kernel
theorem dX12_isMoved_1 : decode cX12_isMoved 1 = .ok (.getfield 58, 3) := by decide +kernel
theorem dX12_isMoved_4 : decode cX12_isMoved 4 = .ok (.bipush (-5), 2) := by decide +kernel
theorem dX12_isMoved_6 : decode cX12_isMoved 6 = .ok (.if_icmp .eq 27, 3) := by decide +kernel
theorem dX12_isMoved_9 : decode cX12_isMoved 9 = .ok (.aload_n 1, 1) := by decide +kernel
theorem dX12_isMoved_10 : decode cX12_isMoved 10 = .ok (.iload_n 2, 1) := by decide +kernel
theorem dX12_isMoved_11 : decode cX12_isMoved 11 = .ok (.iaload, 1) := by decide +kernel
theorem dX12_isMoved_12 : decode cX12_isMoved 12 = .ok (.aload_n 0, 1) := by decide +kernel
theorem dX12_isMoved_13 : decode cX12_isMoved 13 = .ok (.getfield 52, 3) := by decide +kernel
theorem dX12_isMoved_16 : decode cX12_isMoved 16 = .ok (.bipush 6, 2) := by decide +kernel
theorem dX12_isMoved_18 : decode cX12_isMoved 18 = .ok (.aload_n 0, 1) := by decide +kernel
theorem dX12_isMoved_19 : decode cX12_isMoved 19 = .ok (.getfield 58, 3) := by decide +kernel
theorem dX12_isMoved_22 : decode cX12_isMoved 22 = .ok (.imul, 1) := by decide +kernel
theorem dX12_isMoved_23 : decode cX12_isMoved 23 = .ok (.iload_n 2, 1) := by decide +kernel
theorem dX12_isMoved_24 : decode cX12_isMoved 24 = .ok (.iadd, 1) := by decide +kernel
theorem dX12_isMoved_25 : decode cX12_isMoved 25 = .ok (.iaload, 1) := by decide +kernel
theorem dX12_isMoved_26 : decode cX12_isMoved 26 = .ok (.if_icmp .eq 7, 3) := by decide +kernel
theorem dX12_isMoved_29 : decode cX12_isMoved 29 = .ok (.iconst 1, 1) := by decide +kernel
theorem dX12_isMoved_30 : decode cX12_isMoved 30 = .ok (.goto 4, 3) := by decide +kernel
theorem dX12_isMoved_33 : decode cX12_isMoved 33 = .ok (.iconst 0, 1) := by decide +kernel
theorem dX12_isMoved_34 : decode cX12_isMoved 34 = .ok (.ireturn, 1) := by decide +kernel
theorem dX12_costOf_0 : decode cX12_costOf 0 = .ok (.iconst 0, 1) := by decide +kernel
theorem dX12_costOf_1 : decode cX12_costOf 1 = .ok (.istore_n 2, 1) := by decide +kernel
theorem dX12_costOf_2 : decode cX12_costOf 2 = .ok (.iconst 0, 1) := by decide +kernel
theorem dX12_costOf_3 : decode cX12_costOf 3 = .ok (.istore_n 3, 1) := by decide +kernel
theorem dX12_costOf_4 : decode cX12_costOf 4 = .ok (.iload_n 3, 1) := by decide +kernel
theorem dX12_costOf_5 : decode cX12_costOf 5 = .ok (.aload_n 0, 1) := by decide +kernel
theorem dX12_costOf_6 : decode cX12_costOf 6 = .ok (.getfield 93, 3) := by decide +kernel
theorem dX12_costOf_9 : decode cX12_costOf 9 = .ok (.if_icmp .ge 68, 3) := by decide +kernel
theorem dX12_costOf_12 : decode cX12_costOf 12 = .ok (.aload_n 0, 1) := by decide +kernel
theorem dX12_costOf_13 : decode cX12_costOf 13 = .ok (.aload_n 1, 1) := by decide +kernel
theorem dX12_costOf_14 : decode cX12_costOf 14 = .ok (.iload_n 3, 1) := by decide +kernel
theorem dX12_costOf_15 : decode cX12_costOf 15 = .ok (.invokevirtual 124, 3) := by decide +kernel
theorem dX12_costOf_18 : decode cX12_costOf 18 = .ok (.ifCond .eq 53, 3) := by decide +kernel
theorem dX12_costOf_21 : decode cX12_costOf 21 = .ok (.aload_n 1, 1) := by decide +kernel
theorem dX12_costOf_22 : decode cX12_costOf 22 = .ok (.iload_n 3, 1) := by decide +kernel
theorem dX12_costOf_23 : decode cX12_costOf 23 = .ok (.iaload, 1) := by decide +kernel
theorem dX12_costOf_24 : decode cX12_costOf 24 = .ok (.aload_n 0, 1) := by decide +kernel
theorem dX12_costOf_25 : decode cX12_costOf 25 = .ok (.getfield 52, 3) := by decide +kernel
theorem dX12_costOf_28 : decode cX12_costOf 28 = .ok (.bipush 6, 2) := by decide +kernel
theorem dX12_costOf_30 : decode cX12_costOf 30 = .ok (.aload_n 0, 1) := by decide +kernel
theorem dX12_costOf_31 : decode cX12_costOf 31 = .ok (.getfield 58, 3) := by decide +kernel
theorem dX12_costOf_34 : decode cX12_costOf 34 = .ok (.imul, 1) := by decide +kernel
theorem dX12_costOf_35 : decode cX12_costOf 35 = .ok (.iload_n 3, 1) := by decide +kernel
theorem dX12_costOf_36 : decode cX12_costOf 36 = .ok (.iadd, 1) := by decide +kernel
theorem dX12_costOf_37 : decode cX12_costOf 37 = .ok (.iaload, 1) := by decide +kernel
theorem dX12_costOf_38 : decode cX12_costOf 38 = .ok (.isub, 1) := by decide +kernel
theorem dX12_costOf_39 : decode cX12_costOf 39 = .ok (.istore 4, 2) := by decide +kernel
theorem dX12_costOf_41 : decode cX12_costOf 41 = .ok (.iload_n 2, 1) := by decide +kernel
theorem dX12_costOf_42 : decode cX12_costOf 42 = .ok (.aload_n 0, 1) := by decide +kernel
theorem dX12_costOf_43 : decode cX12_costOf 43 = .ok (.getfield 19, 3) := by decide +kernel
theorem dX12_costOf_46 : decode cX12_costOf 46 = .ok (.iload_n 3, 1) := by decide +kernel
theorem dX12_costOf_47 : decode cX12_costOf 47 = .ok (.iaload, 1) := by decide +kernel
theorem dX12_costOf_48 : decode cX12_costOf 48 = .ok (.aload_n 0, 1) := by decide +kernel
theorem dX12_costOf_49 : decode cX12_costOf 49 = .ok (.getfield 22, 3) := by decide +kernel
theorem dX12_costOf_52 : decode cX12_costOf 52 = .ok (.iload_n 3, 1) := by decide +kernel
theorem dX12_costOf_53 : decode cX12_costOf 53 = .ok (.iaload, 1) := by decide +kernel
theorem dX12_costOf_54 : decode cX12_costOf 54 = .ok (.iload 4, 2) := by decide +kernel
theorem dX12_costOf_56 : decode cX12_costOf 56 = .ok (.ifCond .ge 9, 3) := by decide +kernel
theorem dX12_costOf_59 : decode cX12_costOf 59 = .ok (.iload 4, 2) := by decide +kernel
theorem dX12_costOf_61 : decode cX12_costOf 61 = .ok (.ineg, 1) := by decide +kernel
theorem dX12_costOf_62 : decode cX12_costOf 62 = .ok (.goto 5, 3) := by decide +kernel
theorem dX12_costOf_65 : decode cX12_costOf 65 = .ok (.iload 4, 2) := by decide +kernel
theorem dX12_costOf_67 : decode cX12_costOf 67 = .ok (.imul, 1) := by decide +kernel
theorem dX12_costOf_68 : decode cX12_costOf 68 = .ok (.iadd, 1) := by decide +kernel
theorem dX12_costOf_69 : decode cX12_costOf 69 = .ok (.iadd, 1) := by decide +kernel
theorem dX12_costOf_70 : decode cX12_costOf 70 = .ok (.istore_n 2, 1) := by decide +kernel
theorem dX12_costOf_71 : decode cX12_costOf 71 = .ok (.iinc 3 1, 3) := by decide +kernel
theorem dX12_costOf_74 : decode cX12_costOf 74 = .ok (.goto (-70), 3) := by decide +kernel
theorem dX12_costOf_77 : decode cX12_costOf 77 = .ok (.iload_n 2, 1) := by decide +kernel
theorem dX12_costOf_78 : decode cX12_costOf 78 = .ok (.ireturn, 1) := by decide +kernel
theorem dX12_worthOf_0 : decode cX12_worthOf 0 = .ok (.iconst 0, 1) := by decide +kernel
theorem dX12_worthOf_1 : decode cX12_worthOf 1 = .ok (.istore_n 2, 1) := by decide +kernel
theorem dX12_worthOf_2 : decode cX12_worthOf 2 = .ok (.iconst 0, 1) := by decide +kernel
theorem dX12_worthOf_3 : decode cX12_worthOf 3 = .ok (.istore_n 3, 1) := by decide +kernel
theorem dX12_worthOf_4 : decode cX12_worthOf 4 = .ok (.iload_n 3, 1) := by decide +kernel
theorem dX12_worthOf_5 : decode cX12_worthOf 5 = .ok (.aload_n 0, 1) := by decide +kernel
theorem dX12_worthOf_6 : decode cX12_worthOf 6 = .ok (.getfield 93, 3) := by decide +kernel
theorem dX12_worthOf_9 : decode cX12_worthOf 9 = .ok (.if_icmp .ge 25, 3) := by decide +kernel
theorem dX12_worthOf_12 : decode cX12_worthOf 12 = .ok (.iload_n 2, 1) := by decide +kernel
theorem dX12_worthOf_13 : decode cX12_worthOf 13 = .ok (.aload_n 0, 1) := by decide +kernel
theorem dX12_worthOf_14 : decode cX12_worthOf 14 = .ok (.getfield 28, 3) := by decide +kernel
theorem dX12_worthOf_17 : decode cX12_worthOf 17 = .ok (.bipush 6, 2) := by decide +kernel
theorem dX12_worthOf_19 : decode cX12_worthOf 19 = .ok (.iload_n 3, 1) := by decide +kernel
theorem dX12_worthOf_20 : decode cX12_worthOf 20 = .ok (.imul, 1) := by decide +kernel
theorem dX12_worthOf_21 : decode cX12_worthOf 21 = .ok (.aload_n 1, 1) := by decide +kernel
theorem dX12_worthOf_22 : decode cX12_worthOf 22 = .ok (.iload_n 3, 1) := by decide +kernel
theorem dX12_worthOf_23 : decode cX12_worthOf 23 = .ok (.iaload, 1) := by decide +kernel
theorem dX12_worthOf_24 : decode cX12_worthOf 24 = .ok (.iadd, 1) := by decide +kernel
theorem dX12_worthOf_25 : decode cX12_worthOf 25 = .ok (.iaload, 1) := by decide +kernel
theorem dX12_worthOf_26 : decode cX12_worthOf 26 = .ok (.iadd, 1) := by decide +kernel
theorem dX12_worthOf_27 : decode cX12_worthOf 27 = .ok (.istore_n 2, 1) := by decide +kernel
theorem dX12_worthOf_28 : decode cX12_worthOf 28 = .ok (.iinc 3 1, 3) := by decide +kernel
theorem dX12_worthOf_31 : decode cX12_worthOf 31 = .ok (.goto (-27), 3) := by decide +kernel
theorem dX12_worthOf_34 : decode cX12_worthOf 34 = .ok (.iload_n 2, 1) := by decide +kernel
theorem dX12_worthOf_35 : decode cX12_worthOf 35 = .ok (.ireturn, 1) := by decide +kernel
theorem dX12_isAllowed_0 : decode cX12_isAllowed 0 = .ok (.iconst 0, 1) := by decide +kernel
theorem dX12_isAllowed_1 : decode cX12_isAllowed 1 = .ok (.istore_n 2, 1) := by decide +kernel
theorem dX12_isAllowed_2 : decode cX12_isAllowed 2 = .ok (.iload_n 2, 1) := by decide +kernel
theorem dX12_isAllowed_3 : decode cX12_isAllowed 3 = .ok (.iconst 4, 1) := by decide +kernel
theorem dX12_isAllowed_4 : decode cX12_isAllowed 4 = .ok (.if_icmp .ge 70, 3) := by decide +kernel
theorem dX12_isAllowed_7 : decode cX12_isAllowed 7 = .ok (.iconst 0, 1) := by decide +kernel
theorem dX12_isAllowed_8 : decode cX12_isAllowed 8 = .ok (.istore_n 3, 1) := by decide +kernel
theorem dX12_isAllowed_9 : decode cX12_isAllowed 9 = .ok (.iconst 0, 1) := by decide +kernel
theorem dX12_isAllowed_10 : decode cX12_isAllowed 10 = .ok (.istore 4, 2) := by decide +kernel
theorem dX12_isAllowed_12 : decode cX12_isAllowed 12 = .ok (.iload 4, 2) := by decide +kernel
theorem dX12_isAllowed_14 : decode cX12_isAllowed 14 = .ok (.aload_n 0, 1) := by decide +kernel
theorem dX12_isAllowed_15 : decode cX12_isAllowed 15 = .ok (.getfield 93, 3) := by decide +kernel
theorem dX12_isAllowed_18 : decode cX12_isAllowed 18 = .ok (.if_icmp .ge 38, 3) := by decide +kernel
theorem dX12_isAllowed_21 : decode cX12_isAllowed 21 = .ok (.iload_n 3, 1) := by decide +kernel
theorem dX12_isAllowed_22 : decode cX12_isAllowed 22 = .ok (.aload_n 0, 1) := by decide +kernel
theorem dX12_isAllowed_23 : decode cX12_isAllowed 23 = .ok (.getfield 16, 3) := by decide +kernel
theorem dX12_isAllowed_26 : decode cX12_isAllowed 26 = .ok (.iload 4, 2) := by decide +kernel
theorem dX12_isAllowed_28 : decode cX12_isAllowed 28 = .ok (.iaload, 1) := by decide +kernel
theorem dX12_isAllowed_29 : decode cX12_isAllowed 29 = .ok (.iload_n 2, 1) := by decide +kernel
theorem dX12_isAllowed_30 : decode cX12_isAllowed 30 = .ok (.if_icmp .ne 17, 3) := by decide +kernel
theorem dX12_isAllowed_33 : decode cX12_isAllowed 33 = .ok (.aload_n 0, 1) := by decide +kernel
theorem dX12_isAllowed_34 : decode cX12_isAllowed 34 = .ok (.aload_n 1, 1) := by decide +kernel
theorem dX12_isAllowed_35 : decode cX12_isAllowed 35 = .ok (.iload 4, 2) := by decide +kernel
theorem dX12_isAllowed_37 : decode cX12_isAllowed 37 = .ok (.invokevirtual 124, 3) := by decide +kernel
theorem dX12_isAllowed_40 : decode cX12_isAllowed 40 = .ok (.ifCond .eq 7, 3) := by decide +kernel
theorem dX12_isAllowed_43 : decode cX12_isAllowed 43 = .ok (.iconst 1, 1) := by decide +kernel
theorem dX12_isAllowed_44 : decode cX12_isAllowed 44 = .ok (.goto 4, 3) := by decide +kernel
theorem dX12_isAllowed_47 : decode cX12_isAllowed 47 = .ok (.iconst 0, 1) := by decide +kernel
theorem dX12_isAllowed_48 : decode cX12_isAllowed 48 = .ok (.iadd, 1) := by decide +kernel
theorem dX12_isAllowed_49 : decode cX12_isAllowed 49 = .ok (.istore_n 3, 1) := by decide +kernel
theorem dX12_isAllowed_50 : decode cX12_isAllowed 50 = .ok (.iinc 4 1, 3) := by decide +kernel
theorem dX12_isAllowed_53 : decode cX12_isAllowed 53 = .ok (.goto (-41), 3) := by decide +kernel
theorem dX12_isAllowed_56 : decode cX12_isAllowed 56 = .ok (.iload_n 3, 1) := by decide +kernel
theorem dX12_isAllowed_57 : decode cX12_isAllowed 57 = .ok (.aload_n 0, 1) := by decide +kernel
theorem dX12_isAllowed_58 : decode cX12_isAllowed 58 = .ok (.getfield 34, 3) := by decide +kernel
theorem dX12_isAllowed_61 : decode cX12_isAllowed 61 = .ok (.iload_n 2, 1) := by decide +kernel
theorem dX12_isAllowed_62 : decode cX12_isAllowed 62 = .ok (.iaload, 1) := by decide +kernel
theorem dX12_isAllowed_63 : decode cX12_isAllowed 63 = .ok (.if_icmp .le 5, 3) := by decide +kernel
theorem dX12_isAllowed_66 : decode cX12_isAllowed 66 = .ok (.iconst 0, 1) := by decide +kernel
theorem dX12_isAllowed_67 : decode cX12_isAllowed 67 = .ok (.ireturn, 1) := by decide +kernel
theorem dX12_isAllowed_68 : decode cX12_isAllowed 68 = .ok (.iinc 2 1, 3) := by decide +kernel
theorem dX12_isAllowed_71 : decode cX12_isAllowed 71 = .ok (.goto (-69), 3) := by decide +kernel
theorem dX12_isAllowed_74 : decode cX12_isAllowed 74 = .ok (.iconst 0, 1) := by decide +kernel
theorem dX12_isAllowed_75 : decode cX12_isAllowed 75 = .ok (.istore_n 2, 1) := by decide +kernel
theorem dX12_isAllowed_76 : decode cX12_isAllowed 76 = .ok (.iload_n 2, 1) := by decide +kernel
theorem dX12_isAllowed_77 : decode cX12_isAllowed 77 = .ok (.aload_n 0, 1) := by decide +kernel
theorem dX12_isAllowed_78 : decode cX12_isAllowed 78 = .ok (.getfield 93, 3) := by decide +kernel
theorem dX12_isAllowed_81 : decode cX12_isAllowed 81 = .ok (.if_icmp .ge 45, 3) := by decide +kernel
theorem dX12_isAllowed_84 : decode cX12_isAllowed 84 = .ok (.aload_n 0, 1) := by decide +kernel
theorem dX12_isAllowed_85 : decode cX12_isAllowed 85 = .ok (.iload_n 2, 1) := by decide +kernel
theorem dX12_isAllowed_86 : decode cX12_isAllowed 86 = .ok (.aload_n 1, 1) := by decide +kernel
theorem dX12_isAllowed_87 : decode cX12_isAllowed 87 = .ok (.iload_n 2, 1) := by decide +kernel
theorem dX12_isAllowed_88 : decode cX12_isAllowed 88 = .ok (.iaload, 1) := by decide +kernel
theorem dX12_isAllowed_89 : decode cX12_isAllowed 89 = .ok (.invokevirtual 107, 3) := by decide +kernel
theorem dX12_isAllowed_92 : decode cX12_isAllowed 92 = .ok (.ifCond .eq 26, 3) := by decide +kernel
theorem dX12_isAllowed_95 : decode cX12_isAllowed 95 = .ok (.aload_n 0, 1) := by decide +kernel
theorem dX12_isAllowed_96 : decode cX12_isAllowed 96 = .ok (.getfield 25, 3) := by decide +kernel
theorem dX12_isAllowed_99 : decode cX12_isAllowed 99 = .ok (.iload_n 2, 1) := by decide +kernel
theorem dX12_isAllowed_100 : decode cX12_isAllowed 100 = .ok (.iaload, 1) := by decide +kernel
theorem dX12_isAllowed_101 : decode cX12_isAllowed 101 = .ok (.bipush (-5), 2) := by decide +kernel
theorem dX12_isAllowed_103 : decode cX12_isAllowed 103 = .ok (.if_icmp .eq 17, 3) := by decide +kernel
theorem dX12_isAllowed_106 : decode cX12_isAllowed 106 = .ok (.aload_n 0, 1) := by decide +kernel
theorem dX12_isAllowed_107 : decode cX12_isAllowed 107 = .ok (.getfield 25, 3) := by decide +kernel
theorem dX12_isAllowed_110 : decode cX12_isAllowed 110 = .ok (.iload_n 2, 1) := by decide +kernel
theorem dX12_isAllowed_111 : decode cX12_isAllowed 111 = .ok (.iaload, 1) := by decide +kernel
theorem dX12_isAllowed_112 : decode cX12_isAllowed 112 = .ok (.aload_n 1, 1) := by decide +kernel
theorem dX12_isAllowed_113 : decode cX12_isAllowed 113 = .ok (.iload_n 2, 1) := by decide +kernel
theorem dX12_isAllowed_114 : decode cX12_isAllowed 114 = .ok (.iaload, 1) := by decide +kernel
theorem dX12_isAllowed_115 : decode cX12_isAllowed 115 = .ok (.if_icmp .eq 5, 3) := by decide +kernel
theorem dX12_isAllowed_118 : decode cX12_isAllowed 118 = .ok (.iconst 0, 1) := by decide +kernel
theorem dX12_isAllowed_119 : decode cX12_isAllowed 119 = .ok (.ireturn, 1) := by decide +kernel
theorem dX12_isAllowed_120 : decode cX12_isAllowed 120 = .ok (.iinc 2 1, 3) := by decide +kernel
theorem dX12_isAllowed_123 : decode cX12_isAllowed 123 = .ok (.goto (-47), 3) := by decide +kernel
theorem dX12_isAllowed_126 : decode cX12_isAllowed 126 = .ok (.iconst 1, 1) := by decide +kernel
theorem dX12_isAllowed_127 : decode cX12_isAllowed 127 = .ok (.ireturn, 1) := by decide +kernel
theorem dX12_firstPlan_0 : decode cX12_firstPlan 0 = .ok (.iconst 0, 1) := by decide +kernel
theorem dX12_firstPlan_1 : decode cX12_firstPlan 1 = .ok (.istore_n 1, 1) := by decide +kernel
