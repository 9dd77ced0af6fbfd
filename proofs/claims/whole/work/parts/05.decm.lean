theorem dX7_init_0 : decode cX7_init 0 = .ok (.aload_n 0, 1) := by decide +kernel
theorem dX7_init_1 : decode cX7_init 1 = .ok (.invokespecial 1, 3) := by decide +kernel
theorem dX7_init_4 : decode cX7_init 4 = .ok (.aload_n 0, 1) := by decide +kernel
theorem dX7_init_5 : decode cX7_init 5 = .ok (.bipush 12, 2) := by decide +kernel
theorem dX7_init_7 : decode cX7_init 7 = .ok (.newarray .int, 2) := by decide +kernel
theorem dX7_init_9 : decode cX7_init 9 = .ok (.putfield 7, 3) := by decide +kernel
theorem dX7_init_12 : decode cX7_init 12 = .ok (.aload_n 0, 1) := by decide +kernel
theorem dX7_init_13 : decode cX7_init 13 = .ok (.sipush 240, 3) := by decide +kernel
theorem dX7_init_16 : decode cX7_init 16 = .ok (.newarray .int, 2) := by decide +kernel
theorem dX7_init_18 : decode cX7_init 18 = .ok (.putfield 13, 3) := by decide +kernel
theorem dX7_init_21 : decode cX7_init 21 = .ok (.aload_n 0, 1) := by decide +kernel
theorem dX7_init_22 : decode cX7_init 22 = .ok (.sipush 240, 3) := by decide +kernel
theorem dX7_init_25 : decode cX7_init 25 = .ok (.newarray .int, 2) := by decide +kernel
theorem dX7_init_27 : decode cX7_init 27 = .ok (.putfield 16, 3) := by decide +kernel
theorem dX7_init_30 : decode cX7_init 30 = .ok (.aload_n 0, 1) := by decide +kernel
theorem dX7_init_31 : decode cX7_init 31 = .ok (.bipush 24, 2) := by decide +kernel
theorem dX7_init_33 : decode cX7_init 33 = .ok (.newarray .int, 2) := by decide +kernel
theorem dX7_init_35 : decode cX7_init 35 = .ok (.putfield 19, 3) := by decide +kernel
theorem dX7_init_38 : decode cX7_init 38 = .ok (.aload_n 0, 1) := by decide +kernel
theorem dX7_init_39 : decode cX7_init 39 = .ok (.bipush 24, 2) := by decide +kernel
theorem dX7_init_41 : decode cX7_init 41 = .ok (.newarray .int, 2) := by decide +kernel
theorem dX7_init_43 : decode cX7_init 43 = .ok (.putfield 22, 3) := by decide +kernel
theorem dX7_init_46 : decode cX7_init 46 = .ok (.aload_n 0, 1) := by decide +kernel
theorem dX7_init_47 : decode cX7_init 47 = .ok (.bipush 24, 2) := by decide +kernel
theorem dX7_init_49 : decode cX7_init 49 = .ok (.newarray .int, 2) := by decide +kernel
theorem dX7_init_51 : decode cX7_init 51 = .ok (.putfield 25, 3) := by decide +kernel
theorem dX7_init_54 : decode cX7_init 54 = .ok (.aload_n 0, 1) := by decide +kernel
theorem dX7_init_55 : decode cX7_init 55 = .ok (.bipush 24, 2) := by decide +kernel
theorem dX7_init_57 : decode cX7_init 57 = .ok (.newarray .int, 2) := by decide +kernel
theorem dX7_init_59 : decode cX7_init 59 = .ok (.putfield 28, 3) := by decide +kernel
theorem dX7_init_62 : decode cX7_init 62 = .ok (.aload_n 0, 1) := by decide +kernel
theorem dX7_init_63 : decode cX7_init 63 = .ok (.bipush 24, 2) := by decide +kernel
theorem dX7_init_65 : decode cX7_init 65 = .ok (.newarray .int, 2) := by decide +kernel
theorem dX7_init_67 : decode cX7_init 67 = .ok (.putfield 31, 3) := by decide +kernel
theorem dX7_init_70 : decode cX7_init 70 = .ok (.aload_n 0, 1) := by decide +kernel
theorem dX7_init_71 : decode cX7_init 71 = .ok (.bipush 96, 2) := by decide +kernel
theorem dX7_init_73 : decode cX7_init 73 = .ok (.newarray .int, 2) := by decide +kernel
theorem dX7_init_75 : decode cX7_init 75 = .ok (.putfield 34, 3) := by decide +kernel
theorem dX7_init_78 : decode cX7_init 78 = .ok (.aload_n 0, 1) := by decide +kernel
theorem dX7_init_79 : decode cX7_init 79 = .ok (.bipush 24, 2) := by decide +kernel
theorem dX7_init_81 : decode cX7_init 81 = .ok (.newarray .boolean, 2) := by decide +kernel
theorem dX7_init_83 : decode cX7_init 83 = .ok (.putfield 37, 3) := by decide +kernel
theorem dX7_init_86 : decode cX7_init 86 = .ok (.aload_n 0, 1) := by decide +kernel
theorem dX7_init_87 : decode cX7_init 87 = .ok (.bipush 24, 2) := by decide +kernel
theorem dX7_init_89 : decode cX7_init 89 = .ok (.newarray .int, 2) := by decide +kernel
theorem dX7_init_91 : decode cX7_init 91 = .ok (.putfield 41, 3) := by decide +kernel
theorem dX7_init_94 : decode cX7_init 94 = .ok (.aload_n 0, 1) := by decide +kernel
theorem dX7_init_95 : decode cX7_init 95 = .ok (.bipush 96, 2) := by decide +kernel
theorem dX7_init_97 : decode cX7_init 97 = .ok (.newarray .int, 2) := by decide +kernel
theorem dX7_init_99 : decode cX7_init 99 = .ok (.putfield 44, 3) := by decide +kernel
theorem dX7_init_102 : decode cX7_init 102 = .ok (.aload_n 0, 1) := by decide +kernel
theorem dX7_init_103 : decode cX7_init 103 = .ok (.bipush 24, 2) := by decide +kernel
theorem dX7_init_105 : decode cX7_init 105 = .ok (.newarray .int, 2) := by decide +kernel
theorem dX7_init_107 : decode cX7_init 107 = .ok (.putfield 47, 3) := by decide +kernel
theorem dX7_init_110 : decode cX7_init 110 = .ok (.aload_n 0, 1) := by decide +kernel
theorem dX7_init_111 : decode cX7_init 111 = .ok (.bipush 24, 2) := by decide +kernel
theorem dX7_init_113 : decode cX7_init 113 = .ok (.newarray .int, 2) := by decide +kernel
theorem dX7_init_115 : decode cX7_init 115 = .ok (.putfield 50, 3) := by decide +kernel
theorem dX7_init_118 : decode cX7_init 118 = .ok (.aload_n 0, 1) := by decide +kernel
theorem dX7_init_119 : decode cX7_init 119 = .ok (.bipush 24, 2) := by decide +kernel
theorem dX7_init_121 : decode cX7_init 121 = .ok (.newarray .int, 2) := by decide +kernel
theorem dX7_init_123 : decode cX7_init 123 = .ok (.putfield 53, 3) := by decide +kernel
theorem dX7_init_126 : decode cX7_init 126 = .ok (.aload_n 0, 1) := by decide +kernel
theorem dX7_init_127 : decode cX7_init 127 = .ok (.bipush 24, 2) := by decide +kernel
theorem dX7_init_129 : decode cX7_init 129 = .ok (.newarray .int, 2) := by decide +kernel
theorem dX7_init_131 : decode cX7_init 131 = .ok (.putfield 56, 3) := by decide +kernel
theorem dX7_init_134 : decode cX7_init 134 = .ok (.aload_n 0, 1) := by decide +kernel
theorem dX7_init_135 : decode cX7_init 135 = .ok (.bipush 24, 2) := by decide +kernel
theorem dX7_init_137 : decode cX7_init 137 = .ok (.newarray .int, 2) := by decide +kernel
theorem dX7_init_139 : decode cX7_init 139 = .ok (.putfield 59, 3) := by decide +kernel
theorem dX7_init_142 : decode cX7_init 142 = .ok (.aload_n 0, 1) := by decide +kernel
theorem dX7_init_143 : decode cX7_init 143 = .ok (.bipush 25, 2) := by decide +kernel
theorem dX7_init_145 : decode cX7_init 145 = .ok (.newarray .int, 2) := by decide +kernel
theorem dX7_init_147 : decode cX7_init 147 = .ok (.putfield 62, 3) := by decide +kernel
theorem dX7_init_150 : decode cX7_init 150 = .ok (.aload_n 0, 1) := by decide +kernel
theorem dX7_init_151 : decode cX7_init 151 = .ok (.bipush 8, 2) := by decide +kernel
theorem dX7_init_153 : decode cX7_init 153 = .ok (.newarray .int, 2) := by decide +kernel
theorem dX7_init_155 : decode cX7_init 155 = .ok (.putfield 65, 3) := by decide +kernel
theorem dX7_init_158 : decode cX7_init 158 = .ok (.aload_n 0, 1) := by decide +kernel
theorem dX7_init_159 : decode cX7_init 159 = .ok (.bipush 8, 2) := by decide +kernel
theorem dX7_init_161 : decode cX7_init 161 = .ok (.newarray .boolean, 2) := by decide +kernel
theorem dX7_init_163 : decode cX7_init 163 = .ok (.putfield 68, 3) := by decide +kernel
theorem dX7_init_166 : decode cX7_init 166 = .ok (.aload_n 0, 1) := by decide +kernel
theorem dX7_init_167 : decode cX7_init 167 = .ok (.bipush 100, 2) := by decide +kernel
theorem dX7_init_169 : decode cX7_init 169 = .ok (.newarray .int, 2) := by decide +kernel
theorem dX7_init_171 : decode cX7_init 171 = .ok (.putfield 71, 3) := by decide +kernel
theorem dX7_init_174 : decode cX7_init 174 = .ok (.aload_n 0, 1) := by decide +kernel
theorem dX7_init_175 : decode cX7_init 175 = .ok (.bipush 100, 2) := by decide +kernel
theorem dX7_init_177 : decode cX7_init 177 = .ok (.newarray .int, 2) := by decide +kernel
theorem dX7_init_179 : decode cX7_init 179 = .ok (.putfield 74, 3) := by decide +kernel
theorem dX7_init_182 : decode cX7_init 182 = .ok (.return_, 1) := by decide +kernel
theorem dX7_thrown_0 : decode cX7_thrown 0 = .ok (.aload_n 0, 1) := by decide +kernel
theorem dX7_thrown_1 : decode cX7_thrown 1 = .ok (.getfield 77, 3) := by decide +kernel
theorem dX7_thrown_4 : decode cX7_thrown 4 = .ok (.ireturn, 1) := by decide +kernel
theorem dX7_in_0 : decode cX7_in 0 = .ok (.iload_n 0, 1) := by decide +kernel
theorem dX7_in_1 : decode cX7_in 1 = .ok (.iload_n 1, 1) := by decide +kernel
theorem dX7_in_2 : decode cX7_in 2 = .ok (.if_icmp .lt 12, 3) := by decide +kernel
theorem dX7_in_5 : decode cX7_in 5 = .ok (.iload_n 0, 1) := by decide +kernel
theorem dX7_in_6 : decode cX7_in 6 = .ok (.iload_n 2, 1) := by decide +kernel
theorem dX7_in_7 : decode cX7_in 7 = .ok (.if_icmp .gt 7, 3) := by decide +kernel
theorem dX7_in_10 : decode cX7_in 10 = .ok (.iconst 1, 1) := by decide +kernel
theorem dX7_in_11 : decode cX7_in 11 = .ok (.goto 4, 3) := by decide +kernel
theorem dX7_in_14 : decode cX7_in 14 = .ok (.iconst 0, 1) := by decide +kernel
theorem dX7_in_15 : decode cX7_in 15 = .ok (.ireturn, 1) := by decide +kernel
theorem dX7_program_0 : decode cX7_program 0 = .ok (.aload_n 0, 1) := by decide +kernel
theorem dX7_program_1 : decode cX7_program 1 = .ok (.iconst 0, 1) := by decide +kernel
theorem dX7_program_2 : decode cX7_program 2 = .ok (.putfield 77, 3) := by decide +kernel
theorem dX7_program_5 : decode cX7_program 5 = .ok (.aload_n 0, 1) := by decide +kernel
theorem dX7_program_6 : decode cX7_program 6 = .ok (.getfield 81, 3) := by decide +kernel
theorem dX7_program_9 : decode cX7_program 9 = .ok (.bipush 12, 2) := by decide +kernel
theorem dX7_program_11 : decode cX7_program 11 = .ok (.if_icmp .ne 6, 3) := by decide +kernel
theorem dX7_program_14 : decode cX7_program 14 = .ok (.bipush (-4), 2) := by decide +kernel
theorem dX7_program_16 : decode cX7_program 16 = .ok (.ireturn, 1) := by decide +kernel
theorem dX7_program_17 : decode cX7_program 17 = .ok (.aload_n 0, 1) := by decide +kernel
theorem dX7_program_18 : decode cX7_program 18 = .ok (.getfield 7, 3) := by decide +kernel
theorem dX7_program_21 : decode cX7_program 21 = .ok (.aload_n 0, 1) := by decide +kernel
theorem dX7_program_22 : decode cX7_program 22 = .ok (.getfield 81, 3) := by decide +kernel
theorem dX7_program_25 : decode cX7_program 25 = .ok (.iconst 0, 1) := by decide +kernel
theorem dX7_program_26 : decode cX7_program 26 = .ok (.iastore, 1) := by decide +kernel
theorem dX7_program_27 : decode cX7_program 27 = .ok (.aload_n 0, 1) := by decide +kernel
theorem dX7_program_28 : decode cX7_program 28 = .ok (.dup, 1) := by decide +kernel
theorem dX7_program_29 : decode cX7_program 29 = .ok (.getfield 81, 3) := by decide +kernel
theorem dX7_program_32 : decode cX7_program 32 = .ok (.iconst 1, 1) := by decide +kernel
theorem dX7_program_33 : decode cX7_program 33 = .ok (.iadd, 1) := by decide +kernel
theorem dX7_program_34 : decode cX7_program 34 = .ok (.putfield 81, 3) := by decide +kernel
theorem dX7_program_37 : decode cX7_program 37 = .ok (.aload_n 0, 1) := by decide +kernel
theorem dX7_program_38 : decode cX7_program 38 = .ok (.getfield 81, 3) := by decide +kernel
theorem dX7_program_41 : decode cX7_program 41 = .ok (.iconst 1, 1) := by decide +kernel
theorem dX7_program_42 : decode cX7_program 42 = .ok (.isub, 1) := by decide +kernel
theorem dX7_program_43 : decode cX7_program 43 = .ok (.ireturn, 1) := by decide +kernel
theorem dX7_isGood_0 : decode cX7_isGood 0 = .ok (.iload_n 0, 1) := by decide +kernel
theorem dX7_isGood_1 : decode cX7_isGood 1 = .ok (.tableswitch 126 0 15 #[79, 79, 79, 126, 126, 87, 126, 95, 103, 103, 126, 111, 111, 103, 126, 119], 79) := by decide +kernel
theorem dX7_isGood_80 : decode cX7_isGood 80 = .ok (.iload_n 1, 1) := by decide +kernel
theorem dX7_isGood_81 : decode cX7_isGood 81 = .ok (.iconst 0, 1) := by decide +kernel
theorem dX7_isGood_82 : decode cX7_isGood 82 = .ok (.bipush 7, 2) := by decide +kernel
theorem dX7_isGood_84 : decode cX7_isGood 84 = .ok (.invokestatic 84, 3) := by decide +kernel
theorem dX7_isGood_87 : decode cX7_isGood 87 = .ok (.ireturn, 1) := by decide +kernel
theorem dX7_isGood_88 : decode cX7_isGood 88 = .ok (.iload_n 1, 1) := by decide +kernel
theorem dX7_isGood_89 : decode cX7_isGood 89 = .ok (.iconst 0, 1) := by decide +kernel
theorem dX7_isGood_90 : decode cX7_isGood 90 = .ok (.bipush 11, 2) := by decide +kernel
theorem dX7_isGood_92 : decode cX7_isGood 92 = .ok (.invokestatic 84, 3) := by decide +kernel
theorem dX7_isGood_95 : decode cX7_isGood 95 = .ok (.ireturn, 1) := by decide +kernel
theorem dX7_isGood_96 : decode cX7_isGood 96 = .ok (.iload_n 1, 1) := by decide +kernel
theorem dX7_isGood_97 : decode cX7_isGood 97 = .ok (.iconst 0, 1) := by decide +kernel
theorem dX7_isGood_98 : decode cX7_isGood 98 = .ok (.bipush 100, 2) := by decide +kernel
theorem dX7_isGood_100 : decode cX7_isGood 100 = .ok (.invokestatic 84, 3) := by decide +kernel
theorem dX7_isGood_103 : decode cX7_isGood 103 = .ok (.ireturn, 1) := by decide +kernel
theorem dX7_isGood_104 : decode cX7_isGood 104 = .ok (.iload_n 1, 1) := by decide +kernel
theorem dX7_isGood_105 : decode cX7_isGood 105 = .ok (.iconst 0, 1) := by decide +kernel
theorem dX7_isGood_106 : decode cX7_isGood 106 = .ok (.bipush 20, 2) := by decide +kernel
theorem dX7_isGood_108 : decode cX7_isGood 108 = .ok (.invokestatic 84, 3) := by decide +kernel
theorem dX7_isGood_111 : decode cX7_isGood 111 = .ok (.ireturn, 1) := by decide +kernel
theorem dX7_isGood_112 : decode cX7_isGood 112 = .ok (.iload_n 1, 1) := by decide +kernel
theorem dX7_isGood_113 : decode cX7_isGood 113 = .ok (.iconst 1, 1) := by decide +kernel
theorem dX7_isGood_114 : decode cX7_isGood 114 = .ok (.bipush 9, 2) := by decide +kernel
theorem dX7_isGood_116 : decode cX7_isGood 116 = .ok (.invokestatic 84, 3) := by decide +kernel
theorem dX7_isGood_119 : decode cX7_isGood 119 = .ok (.ireturn, 1) := by decide +kernel
theorem dX7_isGood_120 : decode cX7_isGood 120 = .ok (.iload_n 1, 1) := by decide +kernel
theorem dX7_isGood_121 : decode cX7_isGood 121 = .ok (.iconst 0, 1) := by decide +kernel
theorem dX7_isGood_122 : decode cX7_isGood 122 = .ok (.iconst 1, 1) := by decide +kernel
theorem dX7_isGood_123 : decode cX7_isGood 123 = .ok (.invokestatic 84, 3) := by decide +kernel
theorem dX7_isGood_126 : decode cX7_isGood 126 = .ok (.ireturn, 1) := by decide +kernel
theorem dX7_isGood_127 : decode cX7_isGood 127 = .ok (.iload_n 0, 1) := by decide +kernel
theorem dX7_isGood_128 : decode cX7_isGood 128 = .ok (.iconst 0, 1) := by decide +kernel
theorem dX7_isGood_129 : decode cX7_isGood 129 = .ok (.bipush 16, 2) := by decide +kernel
theorem dX7_isGood_131 : decode cX7_isGood 131 = .ok (.invokestatic 84, 3) := by decide +kernel
theorem dX7_isGood_134 : decode cX7_isGood 134 = .ok (.ireturn, 1) := by decide +kernel
theorem dX7_act_0 : decode cX7_act 0 = .ok (.aload_n 0, 1) := by decide +kernel
theorem dX7_act_1 : decode cX7_act 1 = .ok (.iconst 0, 1) := by decide +kernel
theorem dX7_act_2 : decode cX7_act 2 = .ok (.putfield 77, 3) := by decide +kernel
theorem dX7_act_5 : decode cX7_act 5 = .ok (.iload_n 1, 1) := by decide +kernel
theorem dX7_act_6 : decode cX7_act 6 = .ok (.iload_n 2, 1) := by decide +kernel
theorem dX7_act_7 : decode cX7_act 7 = .ok (.invokestatic 88, 3) := by decide +kernel
theorem dX7_act_10 : decode cX7_act 10 = .ok (.ifCond .ne 6, 3) := by decide +kernel
theorem dX7_act_13 : decode cX7_act 13 = .ok (.bipush (-2), 2) := by decide +kernel
theorem dX7_act_15 : decode cX7_act 15 = .ok (.ireturn, 1) := by decide +kernel
theorem dX7_act_16 : decode cX7_act 16 = .ok (.aload_n 0, 1) := by decide +kernel
theorem dX7_act_17 : decode cX7_act 17 = .ok (.getfield 81, 3) := by decide +kernel
theorem dX7_act_20 : decode cX7_act 20 = .ok (.ifCond .ne 6, 3) := by decide +kernel
theorem dX7_act_23 : decode cX7_act 23 = .ok (.bipush (-3), 2) := by decide +kernel
theorem dX7_act_25 : decode cX7_act 25 = .ok (.ireturn, 1) := by decide +kernel
theorem dX7_act_26 : decode cX7_act 26 = .ok (.aload_n 0, 1) := by decide +kernel
theorem dX7_act_27 : decode cX7_act 27 = .ok (.getfield 81, 3) := by decide +kernel
theorem dX7_act_30 : decode cX7_act 30 = .ok (.iconst 1, 1) := by decide +kernel
theorem dX7_act_31 : decode cX7_act 31 = .ok (.isub, 1) := by decide +kernel
theorem dX7_act_32 : decode cX7_act 32 = .ok (.istore_n 3, 1) := by decide +kernel
theorem dX7_act_33 : decode cX7_act 33 = .ok (.aload_n 0, 1) := by decide +kernel
theorem dX7_act_34 : decode cX7_act 34 = .ok (.getfield 7, 3) := by decide +kernel
theorem dX7_act_37 : decode cX7_act 37 = .ok (.iload_n 3, 1) := by decide +kernel
theorem dX7_act_38 : decode cX7_act 38 = .ok (.iaload, 1) := by decide +kernel
theorem dX7_act_39 : decode cX7_act 39 = .ok (.bipush 20, 2) := by decide +kernel
theorem dX7_act_41 : decode cX7_act 41 = .ok (.if_icmp .ne 6, 3) := by decide +kernel
theorem dX7_act_44 : decode cX7_act 44 = .ok (.bipush (-4), 2) := by decide +kernel
theorem dX7_act_46 : decode cX7_act 46 = .ok (.ireturn, 1) := by decide +kernel
theorem dX7_act_47 : decode cX7_act 47 = .ok (.aload_n 0, 1) := by decide +kernel
theorem dX7_act_48 : decode cX7_act 48 = .ok (.getfield 13, 3) := by decide +kernel
theorem dX7_act_51 : decode cX7_act 51 = .ok (.bipush 20, 2) := by decide +kernel
theorem dX7_act_53 : decode cX7_act 53 = .ok (.iload_n 3, 1) := by decide +kernel
theorem dX7_act_54 : decode cX7_act 54 = .ok (.imul, 1) := by decide +kernel
theorem dX7_act_55 : decode cX7_act 55 = .ok (.aload_n 0, 1) := by decide +kernel
theorem dX7_act_56 : decode cX7_act 56 = .ok (.getfield 7, 3) := by decide +kernel
theorem dX7_act_59 : decode cX7_act 59 = .ok (.iload_n 3, 1) := by decide +kernel
theorem dX7_act_60 : decode cX7_act 60 = .ok (.iaload, 1) := by decide +kernel
theorem dX7_act_61 : decode cX7_act 61 = .ok (.iadd, 1) := by decide +kernel
theorem dX7_act_62 : decode cX7_act 62 = .ok (.iload_n 1, 1) := by decide +kernel
theorem dX7_act_63 : decode cX7_act 63 = .ok (.iastore, 1) := by decide +kernel
theorem dX7_act_64 : decode cX7_act 64 = .ok (.aload_n 0, 1) := by decide +kernel
theorem dX7_act_65 : decode cX7_act 65 = .ok (.getfield 16, 3) := by decide +kernel
theorem dX7_act_68 : decode cX7_act 68 = .ok (.bipush 20, 2) := by decide +kernel
theorem dX7_act_70 : decode cX7_act 70 = .ok (.iload_n 3, 1) := by decide +kernel
theorem dX7_act_71 : decode cX7_act 71 = .ok (.imul, 1) := by decide +kernel
theorem dX7_act_72 : decode cX7_act 72 = .ok (.aload_n 0, 1) := by decide +kernel
theorem dX7_act_73 : decode cX7_act 73 = .ok (.getfield 7, 3) := by decide +kernel
theorem dX7_act_76 : decode cX7_act 76 = .ok (.iload_n 3, 1) := by decide +kernel
theorem dX7_act_77 : decode cX7_act 77 = .ok (.iaload, 1) := by decide +kernel
theorem dX7_act_78 : decode cX7_act 78 = .ok (.iadd, 1) := by decide +kernel
theorem dX7_act_79 : decode cX7_act 79 = .ok (.iload_n 2, 1) := by decide +kernel
theorem dX7_act_80 : decode cX7_act 80 = .ok (.iastore, 1) := by decide +kernel
theorem dX7_act_81 : decode cX7_act 81 = .ok (.aload_n 0, 1) := by decide +kernel
theorem dX7_act_82 : decode cX7_act 82 = .ok (.getfield 7, 3) := by decide +kernel
theorem dX7_act_85 : decode cX7_act 85 = .ok (.iload_n 3, 1) := by decide +kernel
theorem dX7_act_86 : decode cX7_act 86 = .ok (.dup2, 1) := by decide +kernel
theorem dX7_act_87 : decode cX7_act 87 = .ok (.iaload, 1) := by decide +kernel
theorem dX7_act_88 : decode cX7_act 88 = .ok (.iconst 1, 1) := by decide +kernel
theorem dX7_act_89 : decode cX7_act 89 = .ok (.iadd, 1) := by decide +kernel
theorem dX7_act_90 : decode cX7_act 90 = .ok (.iastore, 1) := by decide +kernel
theorem dX7_act_91 : decode cX7_act 91 = .ok (.aload_n 0, 1) := by decide +kernel
theorem dX7_act_92 : decode cX7_act 92 = .ok (.getfield 7, 3) := by decide +kernel
theorem dX7_act_95 : decode cX7_act 95 = .ok (.iload_n 3, 1) := by decide +kernel
theorem dX7_act_96 : decode cX7_act 96 = .ok (.iaload, 1) := by decide +kernel
theorem dX7_act_97 : decode cX7_act 97 = .ok (.ireturn, 1) := by decide +kernel
theorem dX7_newThread_0 : decode cX7_newThread 0 = .ok (.aload_n 0, 1) := by decide +kernel
theorem dX7_newThread_1 : decode cX7_newThread 1 = .ok (.getfield 92, 3) := by decide +kernel
theorem dX7_newThread_4 : decode cX7_newThread 4 = .ok (.istore_n 3, 1) := by decide +kernel
theorem dX7_newThread_5 : decode cX7_newThread 5 = .ok (.aload_n 0, 1) := by decide +kernel
theorem dX7_newThread_6 : decode cX7_newThread 6 = .ok (.getfield 19, 3) := by decide +kernel
theorem dX7_newThread_9 : decode cX7_newThread 9 = .ok (.iload_n 3, 1) := by decide +kernel
theorem dX7_newThread_10 : decode cX7_newThread 10 = .ok (.iconst 0, 1) := by decide +kernel
theorem dX7_newThread_11 : decode cX7_newThread 11 = .ok (.iastore, 1) := by decide +kernel
theorem dX7_newThread_12 : decode cX7_newThread 12 = .ok (.aload_n 0, 1) := by decide +kernel
theorem dX7_newThread_13 : decode cX7_newThread 13 = .ok (.getfield 22, 3) := by decide +kernel
theorem dX7_newThread_16 : decode cX7_newThread 16 = .ok (.iload_n 3, 1) := by decide +kernel
theorem dX7_newThread_17 : decode cX7_newThread 17 = .ok (.iload_n 1, 1) := by decide +kernel
theorem dX7_newThread_18 : decode cX7_newThread 18 = .ok (.iastore, 1) := by decide +kernel
theorem dX7_newThread_19 : decode cX7_newThread 19 = .ok (.aload_n 0, 1) := by decide +kernel
theorem dX7_newThread_20 : decode cX7_newThread 20 = .ok (.getfield 25, 3) := by decide +kernel
theorem dX7_newThread_23 : decode cX7_newThread 23 = .ok (.iload_n 3, 1) := by decide +kernel
theorem dX7_newThread_24 : decode cX7_newThread 24 = .ok (.iconst 0, 1) := by decide +kernel
theorem dX7_newThread_25 : decode cX7_newThread 25 = .ok (.iastore, 1) := by decide +kernel
theorem dX7_newThread_26 : decode cX7_newThread 26 = .ok (.aload_n 0, 1) := by decide +kernel
theorem dX7_newThread_27 : decode cX7_newThread 27 = .ok (.getfield 28, 3) := by decide +kernel
theorem dX7_newThread_30 : decode cX7_newThread 30 = .ok (.iload_n 3, 1) := by decide +kernel
theorem dX7_newThread_31 : decode cX7_newThread 31 = .ok (.iload_n 2, 1) := by decide +kernel
theorem dX7_newThread_32 : decode cX7_newThread 32 = .ok (.iastore, 1) := by decide +kernel
theorem dX7_newThread_33 : decode cX7_newThread 33 = .ok (.aload_n 0, 1) := by decide +kernel
theorem dX7_newThread_34 : decode cX7_newThread 34 = .ok (.getfield 31, 3) := by decide +kernel
theorem dX7_newThread_37 : decode cX7_newThread 37 = .ok (.iload_n 3, 1) := by decide +kernel
theorem dX7_newThread_38 : decode cX7_newThread 38 = .ok (.iconst 0, 1) := by decide +kernel
theorem dX7_newThread_39 : decode cX7_newThread 39 = .ok (.iastore, 1) := by decide +kernel
theorem dX7_newThread_40 : decode cX7_newThread 40 = .ok (.aload_n 0, 1) := by decide +kernel
theorem dX7_newThread_41 : decode cX7_newThread 41 = .ok (.getfield 37, 3) := by decide +kernel
theorem dX7_newThread_44 : decode cX7_newThread 44 = .ok (.iload_n 3, 1) := by decide +kernel
theorem dX7_newThread_45 : decode cX7_newThread 45 = .ok (.iconst 0, 1) := by decide +kernel
theorem dX7_newThread_46 : decode cX7_newThread 46 = .ok (.bastore, 1) := by decide +kernel
theorem dX7_newThread_47 : decode cX7_newThread 47 = .ok (.aload_n 0, 1) := by decide +kernel
theorem dX7_newThread_48 : decode cX7_newThread 48 = .ok (.getfield 41, 3) := by decide +kernel
theorem dX7_newThread_51 : decode cX7_newThread 51 = .ok (.iload_n 3, 1) := by decide +kernel
theorem dX7_newThread_52 : decode cX7_newThread 52 = .ok (.iconst 0, 1) := by decide +kernel
theorem dX7_newThread_53 : decode cX7_newThread 53 = .ok (.iastore, 1) := by decide +kernel
theorem dX7_newThread_54 : decode cX7_newThread 54 = .ok (.aload_n 0, 1) := by decide +kernel
theorem dX7_newThread_55 : decode cX7_newThread 55 = .ok (.getfield 47, 3) := by decide +kernel
theorem dX7_newThread_58 : decode cX7_newThread 58 = .ok (.iload_n 3, 1) := by decide +kernel
theorem dX7_newThread_59 : decode cX7_newThread 59 = .ok (.iconst 0, 1) := by decide +kernel
theorem dX7_newThread_60 : decode cX7_newThread 60 = .ok (.iastore, 1) := by decide +kernel
theorem dX7_newThread_61 : decode cX7_newThread 61 = .ok (.aload_n 0, 1) := by decide +kernel
theorem dX7_newThread_62 : decode cX7_newThread 62 = .ok (.getfield 50, 3) := by decide +kernel
theorem dX7_newThread_65 : decode cX7_newThread 65 = .ok (.iload_n 3, 1) := by decide +kernel
theorem dX7_newThread_66 : decode cX7_newThread 66 = .ok (.iconst 0, 1) := by decide +kernel
theorem dX7_newThread_67 : decode cX7_newThread 67 = .ok (.iastore, 1) := by decide +kernel
theorem dX7_newThread_68 : decode cX7_newThread 68 = .ok (.aload_n 0, 1) := by decide +kernel
theorem dX7_newThread_69 : decode cX7_newThread 69 = .ok (.getfield 53, 3) := by decide +kernel
theorem dX7_newThread_72 : decode cX7_newThread 72 = .ok (.iload_n 3, 1) := by decide +kernel
theorem dX7_newThread_73 : decode cX7_newThread 73 = .ok (.bipush (-3), 2) := by decide +kernel
theorem dX7_newThread_75 : decode cX7_newThread 75 = .ok (.iastore, 1) := by decide +kernel
theorem dX7_newThread_76 : decode cX7_newThread 76 = .ok (.aload_n 0, 1) := by decide +kernel
theorem dX7_newThread_77 : decode cX7_newThread 77 = .ok (.getfield 56, 3) := by decide +kernel
theorem dX7_newThread_80 : decode cX7_newThread 80 = .ok (.iload_n 3, 1) := by decide +kernel
theorem dX7_newThread_81 : decode cX7_newThread 81 = .ok (.iconst (-1), 1) := by decide +kernel
theorem dX7_newThread_82 : decode cX7_newThread 82 = .ok (.iastore, 1) := by decide +kernel
theorem dX7_newThread_83 : decode cX7_newThread 83 = .ok (.aload_n 0, 1) := by decide +kernel
theorem dX7_newThread_84 : decode cX7_newThread 84 = .ok (.dup, 1) := by decide +kernel
theorem dX7_newThread_85 : decode cX7_newThread 85 = .ok (.getfield 92, 3) := by decide +kernel
theorem dX7_newThread_88 : decode cX7_newThread 88 = .ok (.iconst 1, 1) := by decide +kernel
theorem dX7_newThread_89 : decode cX7_newThread 89 = .ok (.iadd, 1) := by decide +kernel
theorem dX7_newThread_90 : decode cX7_newThread 90 = .ok (.putfield 92, 3) := by decide +kernel
theorem dX7_newThread_93 : decode cX7_newThread 93 = .ok (.aload_n 0, 1) := by decide +kernel
theorem dX7_newThread_94 : decode cX7_newThread 94 = .ok (.iload_n 3, 1) := by decide +kernel
theorem dX7_newThread_95 : decode cX7_newThread 95 = .ok (.invokevirtual 95, 3) := by decide +kernel
theorem dX7_newThread_98 : decode cX7_newThread 98 = .ok (.iload_n 3, 1) := by decide +kernel
theorem dX7_newThread_99 : decode cX7_newThread 99 = .ok (.ireturn, 1) := by decide +kernel
theorem dX7_enqueue_0 : decode cX7_enqueue 0 = .ok (.aload_n 0, 1) := by decide +kernel
theorem dX7_enqueue_1 : decode cX7_enqueue 1 = .ok (.getfield 19, 3) := by decide +kernel
theorem dX7_enqueue_4 : decode cX7_enqueue 4 = .ok (.iload_n 1, 1) := by decide +kernel
theorem dX7_enqueue_5 : decode cX7_enqueue 5 = .ok (.iconst 0, 1) := by decide +kernel
theorem dX7_enqueue_6 : decode cX7_enqueue 6 = .ok (.iastore, 1) := by decide +kernel
theorem dX7_enqueue_7 : decode cX7_enqueue 7 = .ok (.aload_n 0, 1) := by decide +kernel
theorem dX7_enqueue_8 : decode cX7_enqueue 8 = .ok (.getfield 62, 3) := by decide +kernel
theorem dX7_enqueue_11 : decode cX7_enqueue 11 = .ok (.aload_n 0, 1) := by decide +kernel
theorem dX7_enqueue_12 : decode cX7_enqueue 12 = .ok (.getfield 99, 3) := by decide +kernel
theorem dX7_enqueue_15 : decode cX7_enqueue 15 = .ok (.iload_n 1, 1) := by decide +kernel
theorem dX7_enqueue_16 : decode cX7_enqueue 16 = .ok (.iastore, 1) := by decide +kernel
theorem dX7_enqueue_17 : decode cX7_enqueue 17 = .ok (.aload_n 0, 1) := by decide +kernel
theorem dX7_enqueue_18 : decode cX7_enqueue 18 = .ok (.dup, 1) := by decide +kernel
theorem dX7_enqueue_19 : decode cX7_enqueue 19 = .ok (.getfield 99, 3) := by decide +kernel
theorem dX7_enqueue_22 : decode cX7_enqueue 22 = .ok (.iconst 1, 1) := by decide +kernel
theorem dX7_enqueue_23 : decode cX7_enqueue 23 = .ok (.iadd, 1) := by decide +kernel
theorem dX7_enqueue_24 : decode cX7_enqueue 24 = .ok (.putfield 99, 3) := by decide +kernel
theorem dX7_enqueue_27 : decode cX7_enqueue 27 = .ok (.return_, 1) := by decide +kernel
theorem dX7_leaveQueue_0 : decode cX7_leaveQueue 0 = .ok (.iconst 0, 1) := by decide +kernel
theorem dX7_leaveQueue_1 : decode cX7_leaveQueue 1 = .ok (.istore_n 2, 1) := by decide +kernel
theorem dX7_leaveQueue_2 : decode cX7_leaveQueue 2 = .ok (.iconst 0, 1) := by decide +kernel
theorem dX7_leaveQueue_3 : decode cX7_leaveQueue 3 = .ok (.istore_n 3, 1) := by decide +kernel
theorem dX7_leaveQueue_4 : decode cX7_leaveQueue 4 = .ok (.iload_n 3, 1) := by decide +kernel
theorem dX7_leaveQueue_5 : decode cX7_leaveQueue 5 = .ok (.aload_n 0, 1) := by decide +kernel
theorem dX7_leaveQueue_6 : decode cX7_leaveQueue 6 = .ok (.getfield 99, 3) := by decide +kernel
theorem dX7_leaveQueue_9 : decode cX7_leaveQueue 9 = .ok (.if_icmp .ge 34, 3) := by decide +kernel
theorem dX7_leaveQueue_12 : decode cX7_leaveQueue 12 = .ok (.aload_n 0, 1) := by decide +kernel
theorem dX7_leaveQueue_13 : decode cX7_leaveQueue 13 = .ok (.getfield 62, 3) := by decide +kernel
theorem dX7_leaveQueue_16 : decode cX7_leaveQueue 16 = .ok (.iload_n 3, 1) := by decide +kernel
theorem dX7_leaveQueue_17 : decode cX7_leaveQueue 17 = .ok (.iaload, 1) := by decide +kernel
theorem dX7_leaveQueue_18 : decode cX7_leaveQueue 18 = .ok (.iload_n 1, 1) := by decide +kernel
theorem dX7_leaveQueue_19 : decode cX7_leaveQueue 19 = .ok (.if_icmp .eq 18, 3) := by decide +kernel
theorem dX7_leaveQueue_22 : decode cX7_leaveQueue 22 = .ok (.aload_n 0, 1) := by decide +kernel
theorem dX7_leaveQueue_23 : decode cX7_leaveQueue 23 = .ok (.getfield 62, 3) := by decide +kernel
theorem dX7_leaveQueue_26 : decode cX7_leaveQueue 26 = .ok (.iload_n 2, 1) := by decide +kernel
theorem dX7_leaveQueue_27 : decode cX7_leaveQueue 27 = .ok (.aload_n 0, 1) := by decide +kernel
theorem dX7_leaveQueue_28 : decode cX7_leaveQueue 28 = .ok (.getfield 62, 3) := by decide +kernel
theorem dX7_leaveQueue_31 : decode cX7_leaveQueue 31 = .ok (.iload_n 3, 1) := by decide +kernel
theorem dX7_leaveQueue_32 : decode cX7_leaveQueue 32 = .ok (.iaload, 1) := by decide +kernel
theorem dX7_leaveQueue_33 : decode cX7_leaveQueue 33 = .ok (.iastore, 1) := by decide +kernel
theorem dX7_leaveQueue_34 : decode cX7_leaveQueue 34 = .ok (.iinc 2 1, 3) := by decide +kernel
theorem dX7_leaveQueue_37 : decode cX7_leaveQueue 37 = .ok (.iinc 3 1, 3) := by decide +kernel
theorem dX7_leaveQueue_40 : decode cX7_leaveQueue 40 = .ok (.goto (-36), 3) := by decide +kernel
theorem dX7_leaveQueue_43 : decode cX7_leaveQueue 43 = .ok (.aload_n 0, 1) := by decide +kernel
theorem dX7_leaveQueue_44 : decode cX7_leaveQueue 44 = .ok (.iload_n 2, 1) := by decide +kernel
theorem dX7_leaveQueue_45 : decode cX7_leaveQueue 45 = .ok (.putfield 99, 3) := by decide +kernel
theorem dX7_leaveQueue_48 : decode cX7_leaveQueue 48 = .ok (.return_, 1) := by decide +kernel
theorem dX7_begin_0 : decode cX7_begin 0 = .ok (.aload_n 0, 1) := by decide +kernel
theorem dX7_begin_1 : decode cX7_begin 1 = .ok (.iconst 0, 1) := by decide +kernel
theorem dX7_begin_2 : decode cX7_begin 2 = .ok (.putfield 77, 3) := by decide +kernel
theorem dX7_begin_5 : decode cX7_begin 5 = .ok (.iload_n 1, 1) := by decide +kernel
theorem dX7_begin_6 : decode cX7_begin 6 = .ok (.iconst 0, 1) := by decide +kernel
theorem dX7_begin_7 : decode cX7_begin 7 = .ok (.aload_n 0, 1) := by decide +kernel
theorem dX7_begin_8 : decode cX7_begin 8 = .ok (.getfield 81, 3) := by decide +kernel
theorem dX7_begin_11 : decode cX7_begin 11 = .ok (.iconst 1, 1) := by decide +kernel
theorem dX7_begin_12 : decode cX7_begin 12 = .ok (.isub, 1) := by decide +kernel
theorem dX7_begin_13 : decode cX7_begin 13 = .ok (.invokestatic 84, 3) := by decide +kernel
theorem dX7_begin_16 : decode cX7_begin 16 = .ok (.ifCond .ne 5, 3) := by decide +kernel
theorem dX7_begin_19 : decode cX7_begin 19 = .ok (.iconst (-1), 1) := by decide +kernel
theorem dX7_begin_20 : decode cX7_begin 20 = .ok (.ireturn, 1) := by decide +kernel
theorem dX7_begin_21 : decode cX7_begin 21 = .ok (.iload_n 2, 1) := by decide +kernel
theorem dX7_begin_22 : decode cX7_begin 22 = .ok (.iconst 1, 1) := by decide +kernel
theorem dX7_begin_23 : decode cX7_begin 23 = .ok (.bipush 10, 2) := by decide +kernel
theorem dX7_begin_25 : decode cX7_begin 25 = .ok (.invokestatic 84, 3) := by decide +kernel
theorem dX7_begin_28 : decode cX7_begin 28 = .ok (.ifCond .ne 6, 3) := by decide +kernel
theorem dX7_begin_31 : decode cX7_begin 31 = .ok (.bipush (-2), 2) := by decide +kernel
theorem dX7_begin_33 : decode cX7_begin 33 = .ok (.ireturn, 1) := by decide +kernel
theorem dX7_begin_34 : decode cX7_begin 34 = .ok (.aload_n 0, 1) := by decide +kernel
theorem dX7_begin_35 : decode cX7_begin 35 = .ok (.iconst 1, 1) := by decide +kernel
theorem dX7_begin_36 : decode cX7_begin 36 = .ok (.putfield 102, 3) := by decide +kernel
theorem dX7_begin_39 : decode cX7_begin 39 = .ok (.aload_n 0, 1) := by decide +kernel
theorem dX7_begin_40 : decode cX7_begin 40 = .ok (.iconst 0, 1) := by decide +kernel
theorem dX7_begin_41 : decode cX7_begin 41 = .ok (.putfield 106, 3) := by decide +kernel
theorem dX7_begin_44 : decode cX7_begin 44 = .ok (.aload_n 0, 1) := by decide +kernel
theorem dX7_begin_45 : decode cX7_begin 45 = .ok (.iload_n 2, 1) := by decide +kernel
theorem dX7_begin_46 : decode cX7_begin 46 = .ok (.putfield 109, 3) := by decide +kernel
theorem dX7_begin_49 : decode cX7_begin 49 = .ok (.aload_n 0, 1) := by decide +kernel
theorem dX7_begin_50 : decode cX7_begin 50 = .ok (.iconst 0, 1) := by decide +kernel
theorem dX7_begin_51 : decode cX7_begin 51 = .ok (.putfield 112, 3) := by decide +kernel
theorem dX7_begin_54 : decode cX7_begin 54 = .ok (.aload_n 0, 1) := by decide +kernel
theorem dX7_begin_55 : decode cX7_begin 55 = .ok (.iconst 0, 1) := by decide +kernel
theorem dX7_begin_56 : decode cX7_begin 56 = .ok (.putfield 115, 3) := by decide +kernel
theorem dX7_begin_59 : decode cX7_begin 59 = .ok (.aload_n 0, 1) := by decide +kernel
theorem dX7_begin_60 : decode cX7_begin 60 = .ok (.iconst 0, 1) := by decide +kernel
theorem dX7_begin_61 : decode cX7_begin 61 = .ok (.putfield 118, 3) := by decide +kernel
theorem dX7_begin_64 : decode cX7_begin 64 = .ok (.aload_n 0, 1) := by decide +kernel
theorem dX7_begin_65 : decode cX7_begin 65 = .ok (.iconst 0, 1) := by decide +kernel
theorem dX7_begin_66 : decode cX7_begin 66 = .ok (.putfield 92, 3) := by decide +kernel
theorem dX7_begin_69 : decode cX7_begin 69 = .ok (.aload_n 0, 1) := by decide +kernel
theorem dX7_begin_70 : decode cX7_begin 70 = .ok (.iconst 0, 1) := by decide +kernel
theorem dX7_begin_71 : decode cX7_begin 71 = .ok (.putfield 99, 3) := by decide +kernel
theorem dX7_begin_74 : decode cX7_begin 74 = .ok (.aload_n 0, 1) := by decide +kernel
theorem dX7_begin_75 : decode cX7_begin 75 = .ok (.iconst 0, 1) := by decide +kernel
theorem dX7_begin_76 : decode cX7_begin 76 = .ok (.putfield 121, 3) := by decide +kernel
theorem dX7_begin_79 : decode cX7_begin 79 = .ok (.aload_n 0, 1) := by decide +kernel
theorem dX7_begin_80 : decode cX7_begin 80 = .ok (.iconst 0, 1) := by decide +kernel
theorem dX7_begin_81 : decode cX7_begin 81 = .ok (.putfield 124, 3) := by decide +kernel
theorem dX7_begin_84 : decode cX7_begin 84 = .ok (.iconst 0, 1) := by decide +kernel
theorem dX7_begin_85 : decode cX7_begin 85 = .ok (.istore 4, 2) := by decide +kernel
theorem dX7_begin_87 : decode cX7_begin 87 = .ok (.iload 4, 2) := by decide +kernel
theorem dX7_begin_89 : decode cX7_begin 89 = .ok (.bipush 8, 2) := by decide +kernel
theorem dX7_begin_91 : decode cX7_begin 91 = .ok (.if_icmp .ge 17, 3) := by decide +kernel
theorem dX7_begin_94 : decode cX7_begin 94 = .ok (.aload_n 0, 1) := by decide +kernel
theorem dX7_begin_95 : decode cX7_begin 95 = .ok (.getfield 68, 3) := by decide +kernel
theorem dX7_begin_98 : decode cX7_begin 98 = .ok (.iload 4, 2) := by decide +kernel
theorem dX7_begin_100 : decode cX7_begin 100 = .ok (.iconst 0, 1) := by decide +kernel
theorem dX7_begin_101 : decode cX7_begin 101 = .ok (.bastore, 1) := by decide +kernel
theorem dX7_begin_102 : decode cX7_begin 102 = .ok (.iinc 4 1, 3) := by decide +kernel
theorem dX7_begin_105 : decode cX7_begin 105 = .ok (.goto (-18), 3) := by decide +kernel
theorem dX7_begin_108 : decode cX7_begin 108 = .ok (.aload_n 0, 1) := by decide +kernel
theorem dX7_begin_109 : decode cX7_begin 109 = .ok (.iload_n 1, 1) := by decide +kernel
theorem dX7_begin_110 : decode cX7_begin 110 = .ok (.iload_n 3, 1) := by decide +kernel
theorem dX7_begin_111 : decode cX7_begin 111 = .ok (.invokevirtual 127, 3) := by decide +kernel
theorem dX7_begin_114 : decode cX7_begin 114 = .ok (.istore 4, 2) := by decide +kernel
theorem dX7_begin_116 : decode cX7_begin 116 = .ok (.iconst 1, 1) := by decide +kernel
theorem dX7_begin_117 : decode cX7_begin 117 = .ok (.ireturn, 1) := by decide +kernel
theorem dX7_firstAt_0 : decode cX7_firstAt 0 = .ok (.iconst (-1), 1) := by decide +kernel
theorem dX7_firstAt_1 : decode cX7_firstAt 1 = .ok (.istore_n 3, 1) := by decide +kernel
theorem dX7_firstAt_2 : decode cX7_firstAt 2 = .ok (.iconst 0, 1) := by decide +kernel
theorem dX7_firstAt_3 : decode cX7_firstAt 3 = .ok (.istore 4, 2) := by decide +kernel
theorem dX7_firstAt_5 : decode cX7_firstAt 5 = .ok (.iload 4, 2) := by decide +kernel
theorem dX7_firstAt_7 : decode cX7_firstAt 7 = .ok (.aload_n 0, 1) := by decide +kernel
theorem dX7_firstAt_8 : decode cX7_firstAt 8 = .ok (.getfield 92, 3) := by decide +kernel
theorem dX7_firstAt_11 : decode cX7_firstAt 11 = .ok (.if_icmp .ge 58, 3) := by decide +kernel
theorem dX7_firstAt_14 : decode cX7_firstAt 14 = .ok (.aload_n 0, 1) := by decide +kernel
theorem dX7_firstAt_15 : decode cX7_firstAt 15 = .ok (.getfield 19, 3) := by decide +kernel
theorem dX7_firstAt_18 : decode cX7_firstAt 18 = .ok (.iload 4, 2) := by decide +kernel
theorem dX7_firstAt_20 : decode cX7_firstAt 20 = .ok (.iaload, 1) := by decide +kernel
theorem dX7_firstAt_21 : decode cX7_firstAt 21 = .ok (.iload_n 2, 1) := by decide +kernel
theorem dX7_firstAt_22 : decode cX7_firstAt 22 = .ok (.if_icmp .ne 39, 3) := by decide +kernel
theorem dX7_firstAt_25 : decode cX7_firstAt 25 = .ok (.aload_n 0, 1) := by decide +kernel
theorem dX7_firstAt_26 : decode cX7_firstAt 26 = .ok (.getfield 56, 3) := by decide +kernel
theorem dX7_firstAt_29 : decode cX7_firstAt 29 = .ok (.iload 4, 2) := by decide +kernel
theorem dX7_firstAt_31 : decode cX7_firstAt 31 = .ok (.iaload, 1) := by decide +kernel
theorem dX7_firstAt_32 : decode cX7_firstAt 32 = .ok (.iload_n 1, 1) := by decide +kernel
theorem dX7_firstAt_33 : decode cX7_firstAt 33 = .ok (.if_icmp .ne 28, 3) := by decide +kernel
theorem dX7_firstAt_36 : decode cX7_firstAt 36 = .ok (.iload_n 3, 1) := by decide +kernel
theorem dX7_firstAt_37 : decode cX7_firstAt 37 = .ok (.ifCond .lt 19, 3) := by decide +kernel
theorem dX7_firstAt_40 : decode cX7_firstAt 40 = .ok (.aload_n 0, 1) := by decide +kernel
theorem dX7_firstAt_41 : decode cX7_firstAt 41 = .ok (.getfield 59, 3) := by decide +kernel
theorem dX7_firstAt_44 : decode cX7_firstAt 44 = .ok (.iload 4, 2) := by decide +kernel
theorem dX7_firstAt_46 : decode cX7_firstAt 46 = .ok (.iaload, 1) := by decide +kernel
theorem dX7_firstAt_47 : decode cX7_firstAt 47 = .ok (.aload_n 0, 1) := by decide +kernel
theorem dX7_firstAt_48 : decode cX7_firstAt 48 = .ok (.getfield 59, 3) := by decide +kernel
theorem dX7_firstAt_51 : decode cX7_firstAt 51 = .ok (.iload_n 3, 1) := by decide +kernel
theorem dX7_firstAt_52 : decode cX7_firstAt 52 = .ok (.iaload, 1) := by decide +kernel
theorem dX7_firstAt_53 : decode cX7_firstAt 53 = .ok (.if_icmp .ge 8, 3) := by decide +kernel
theorem dX7_firstAt_56 : decode cX7_firstAt 56 = .ok (.iload 4, 2) := by decide +kernel
theorem dX7_firstAt_58 : decode cX7_firstAt 58 = .ok (.goto 4, 3) := by decide +kernel
theorem dX7_firstAt_61 : decode cX7_firstAt 61 = .ok (.iload_n 3, 1) := by decide +kernel
theorem dX7_firstAt_62 : decode cX7_firstAt 62 = .ok (.istore_n 3, 1) := by decide +kernel
theorem dX7_firstAt_63 : decode cX7_firstAt 63 = .ok (.iinc 4 1, 3) := by decide +kernel
theorem dX7_firstAt_66 : decode cX7_firstAt 66 = .ok (.goto (-61), 3) := by decide +kernel
theorem dX7_firstAt_69 : decode cX7_firstAt 69 = .ok (.iload_n 3, 1) := by decide +kernel
theorem dX7_firstAt_70 : decode cX7_firstAt 70 = .ok (.ireturn, 1) := by decide +kernel
theorem dX7_goesOn_0 : decode cX7_goesOn 0 = .ok (.aload_n 0, 1) := by decide +kernel
theorem dX7_goesOn_1 : decode cX7_goesOn 1 = .ok (.getfield 25, 3) := by decide +kernel
theorem dX7_goesOn_4 : decode cX7_goesOn 4 = .ok (.iload_n 1, 1) := by decide +kernel
theorem dX7_goesOn_5 : decode cX7_goesOn 5 = .ok (.dup2, 1) := by decide +kernel
theorem dX7_goesOn_6 : decode cX7_goesOn 6 = .ok (.iaload, 1) := by decide +kernel
theorem dX7_goesOn_7 : decode cX7_goesOn 7 = .ok (.iconst 1, 1) := by decide +kernel
theorem dX7_goesOn_8 : decode cX7_goesOn 8 = .ok (.iadd, 1) := by decide +kernel
theorem dX7_goesOn_9 : decode cX7_goesOn 9 = .ok (.iastore, 1) := by decide +kernel
theorem dX7_goesOn_10 : decode cX7_goesOn 10 = .ok (.aload_n 0, 1) := by decide +kernel
theorem dX7_goesOn_11 : decode cX7_goesOn 11 = .ok (.getfield 56, 3) := by decide +kernel
theorem dX7_goesOn_14 : decode cX7_goesOn 14 = .ok (.iload_n 1, 1) := by decide +kernel
theorem dX7_goesOn_15 : decode cX7_goesOn 15 = .ok (.iconst (-1), 1) := by decide +kernel
theorem dX7_goesOn_16 : decode cX7_goesOn 16 = .ok (.iastore, 1) := by decide +kernel
theorem dX7_goesOn_17 : decode cX7_goesOn 17 = .ok (.aload_n 0, 1) := by decide +kernel
theorem dX7_goesOn_18 : decode cX7_goesOn 18 = .ok (.iload_n 1, 1) := by decide +kernel
theorem dX7_goesOn_19 : decode cX7_goesOn 19 = .ok (.invokevirtual 95, 3) := by decide +kernel
theorem dX7_goesOn_22 : decode cX7_goesOn 22 = .ok (.return_, 1) := by decide +kernel
theorem dX7_comesIn_0 : decode cX7_comesIn 0 = .ok (.aload_n 0, 1) := by decide +kernel
theorem dX7_comesIn_1 : decode cX7_comesIn 1 = .ok (.iload_n 1, 1) := by decide +kernel
theorem dX7_comesIn_2 : decode cX7_comesIn 2 = .ok (.iconst 3, 1) := by decide +kernel
theorem dX7_comesIn_3 : decode cX7_comesIn 3 = .ok (.invokevirtual 131, 3) := by decide +kernel
theorem dX7_comesIn_6 : decode cX7_comesIn 6 = .ok (.istore_n 3, 1) := by decide +kernel
theorem dX7_comesIn_7 : decode cX7_comesIn 7 = .ok (.iload_n 3, 1) := by decide +kernel
theorem dX7_comesIn_8 : decode cX7_comesIn 8 = .ok (.ifCond .lt 25, 3) := by decide +kernel
theorem dX7_comesIn_11 : decode cX7_comesIn 11 = .ok (.aload_n 0, 1) := by decide +kernel
theorem dX7_comesIn_12 : decode cX7_comesIn 12 = .ok (.getfield 28, 3) := by decide +kernel
theorem dX7_comesIn_15 : decode cX7_comesIn 15 = .ok (.iload_n 3, 1) := by decide +kernel
theorem dX7_comesIn_16 : decode cX7_comesIn 16 = .ok (.iload_n 2, 1) := by decide +kernel
theorem dX7_comesIn_17 : decode cX7_comesIn 17 = .ok (.iastore, 1) := by decide +kernel
theorem dX7_comesIn_18 : decode cX7_comesIn 18 = .ok (.aload_n 0, 1) := by decide +kernel
theorem dX7_comesIn_19 : decode cX7_comesIn 19 = .ok (.iload_n 3, 1) := by decide +kernel
theorem dX7_comesIn_20 : decode cX7_comesIn 20 = .ok (.invokevirtual 134, 3) := by decide +kernel
theorem dX7_comesIn_23 : decode cX7_comesIn 23 = .ok (.aload_n 0, 1) := by decide +kernel
theorem dX7_comesIn_24 : decode cX7_comesIn 24 = .ok (.iload_n 1, 1) := by decide +kernel
theorem dX7_comesIn_25 : decode cX7_comesIn 25 = .ok (.iconst 3, 1) := by decide +kernel
theorem dX7_comesIn_26 : decode cX7_comesIn 26 = .ok (.invokevirtual 131, 3) := by decide +kernel
theorem dX7_comesIn_29 : decode cX7_comesIn 29 = .ok (.istore_n 3, 1) := by decide +kernel
theorem dX7_comesIn_30 : decode cX7_comesIn 30 = .ok (.goto (-23), 3) := by decide +kernel
theorem dX7_comesIn_33 : decode cX7_comesIn 33 = .ok (.aload_n 0, 1) := by decide +kernel
theorem dX7_comesIn_34 : decode cX7_comesIn 34 = .ok (.iload_n 1, 1) := by decide +kernel
theorem dX7_comesIn_35 : decode cX7_comesIn 35 = .ok (.iconst 2, 1) := by decide +kernel
theorem dX7_comesIn_36 : decode cX7_comesIn 36 = .ok (.invokevirtual 131, 3) := by decide +kernel
theorem dX7_comesIn_39 : decode cX7_comesIn 39 = .ok (.istore_n 3, 1) := by decide +kernel
theorem dX7_comesIn_40 : decode cX7_comesIn 40 = .ok (.iload_n 3, 1) := by decide +kernel
theorem dX7_comesIn_41 : decode cX7_comesIn 41 = .ok (.ifCond .lt 18, 3) := by decide +kernel
theorem dX7_comesIn_44 : decode cX7_comesIn 44 = .ok (.aload_n 0, 1) := by decide +kernel
theorem dX7_comesIn_45 : decode cX7_comesIn 45 = .ok (.getfield 28, 3) := by decide +kernel
theorem dX7_comesIn_48 : decode cX7_comesIn 48 = .ok (.iload_n 3, 1) := by decide +kernel
theorem dX7_comesIn_49 : decode cX7_comesIn 49 = .ok (.iload_n 2, 1) := by decide +kernel
theorem dX7_comesIn_50 : decode cX7_comesIn 50 = .ok (.iastore, 1) := by decide +kernel
theorem dX7_comesIn_51 : decode cX7_comesIn 51 = .ok (.aload_n 0, 1) := by decide +kernel
theorem dX7_comesIn_52 : decode cX7_comesIn 52 = .ok (.iload_n 3, 1) := by decide +kernel
theorem dX7_comesIn_53 : decode cX7_comesIn 53 = .ok (.invokevirtual 134, 3) := by decide +kernel
theorem dX7_comesIn_56 : decode cX7_comesIn 56 = .ok (.goto 17, 3) := by decide +kernel
theorem dX7_comesIn_59 : decode cX7_comesIn 59 = .ok (.aload_n 0, 1) := by decide +kernel
theorem dX7_comesIn_60 : decode cX7_comesIn 60 = .ok (.getfield 68, 3) := by decide +kernel
theorem dX7_comesIn_63 : decode cX7_comesIn 63 = .ok (.iload_n 1, 1) := by decide +kernel
theorem dX7_comesIn_64 : decode cX7_comesIn 64 = .ok (.iconst 1, 1) := by decide +kernel
theorem dX7_comesIn_65 : decode cX7_comesIn 65 = .ok (.bastore, 1) := by decide +kernel
theorem dX7_comesIn_66 : decode cX7_comesIn 66 = .ok (.aload_n 0, 1) := by decide +kernel
theorem dX7_comesIn_67 : decode cX7_comesIn 67 = .ok (.getfield 65, 3) := by decide +kernel
theorem dX7_comesIn_70 : decode cX7_comesIn 70 = .ok (.iload_n 1, 1) := by decide +kernel
theorem dX7_comesIn_71 : decode cX7_comesIn 71 = .ok (.iload_n 2, 1) := by decide +kernel
theorem dX7_comesIn_72 : decode cX7_comesIn 72 = .ok (.iastore, 1) := by decide +kernel
theorem dX7_comesIn_73 : decode cX7_comesIn 73 = .ok (.return_, 1) := by decide +kernel
theorem dX7_taken_0 : decode cX7_taken 0 = .ok (.aload_n 0, 1) := by decide +kernel
theorem dX7_taken_1 : decode cX7_taken 1 = .ok (.getfield 68, 3) := by decide +kernel
theorem dX7_taken_4 : decode cX7_taken 4 = .ok (.iload_n 1, 1) := by decide +kernel
theorem dX7_taken_5 : decode cX7_taken 5 = .ok (.iconst 0, 1) := by decide +kernel
theorem dX7_taken_6 : decode cX7_taken 6 = .ok (.bastore, 1) := by decide +kernel
theorem dX7_taken_7 : decode cX7_taken 7 = .ok (.aload_n 0, 1) := by decide +kernel
theorem dX7_taken_8 : decode cX7_taken 8 = .ok (.iload_n 1, 1) := by decide +kernel
theorem dX7_taken_9 : decode cX7_taken 9 = .ok (.iconst 1, 1) := by decide +kernel
theorem dX7_taken_10 : decode cX7_taken 10 = .ok (.invokevirtual 131, 3) := by decide +kernel
theorem dX7_taken_13 : decode cX7_taken 13 = .ok (.istore_n 2, 1) := by decide +kernel
theorem dX7_taken_14 : decode cX7_taken 14 = .ok (.iload_n 2, 1) := by decide +kernel
theorem dX7_taken_15 : decode cX7_taken 15 = .ok (.ifCond .lt 21, 3) := by decide +kernel
theorem dX7_taken_18 : decode cX7_taken 18 = .ok (.aload_n 0, 1) := by decide +kernel
theorem dX7_taken_19 : decode cX7_taken 19 = .ok (.getfield 28, 3) := by decide +kernel
theorem dX7_taken_22 : decode cX7_taken 22 = .ok (.iload_n 2, 1) := by decide +kernel
theorem dX7_taken_23 : decode cX7_taken 23 = .ok (.iaload, 1) := by decide +kernel
theorem dX7_taken_24 : decode cX7_taken 24 = .ok (.istore_n 3, 1) := by decide +kernel
theorem dX7_taken_25 : decode cX7_taken 25 = .ok (.aload_n 0, 1) := by decide +kernel
theorem dX7_taken_26 : decode cX7_taken 26 = .ok (.iload_n 2, 1) := by decide +kernel
theorem dX7_taken_27 : decode cX7_taken 27 = .ok (.invokevirtual 134, 3) := by decide +kernel
theorem dX7_taken_30 : decode cX7_taken 30 = .ok (.aload_n 0, 1) := by decide +kernel
theorem dX7_taken_31 : decode cX7_taken 31 = .ok (.iload_n 1, 1) := by decide +kernel
theorem dX7_taken_32 : decode cX7_taken 32 = .ok (.iload_n 3, 1) := by decide +kernel
theorem dX7_taken_33 : decode cX7_taken 33 = .ok (.invokevirtual 137, 3) := by decide +kernel
theorem dX7_taken_36 : decode cX7_taken 36 = .ok (.return_, 1) := by decide +kernel
theorem dX7_fill_0 : decode cX7_fill 0 = .ok (.aload_n 0, 1) := by decide +kernel
theorem dX7_fill_1 : decode cX7_fill 1 = .ok (.iconst 0, 1) := by decide +kernel
theorem dX7_fill_2 : decode cX7_fill 2 = .ok (.putfield 77, 3) := by decide +kernel
theorem dX7_fill_5 : decode cX7_fill 5 = .ok (.iload_n 1, 1) := by decide +kernel
theorem dX7_fill_6 : decode cX7_fill 6 = .ok (.iconst 0, 1) := by decide +kernel
theorem dX7_fill_7 : decode cX7_fill 7 = .ok (.bipush 7, 2) := by decide +kernel
theorem dX7_fill_9 : decode cX7_fill 9 = .ok (.invokestatic 84, 3) := by decide +kernel
theorem dX7_fill_12 : decode cX7_fill 12 = .ok (.ifCond .ne 5, 3) := by decide +kernel
theorem dX7_fill_15 : decode cX7_fill 15 = .ok (.iconst (-1), 1) := by decide +kernel
theorem dX7_fill_16 : decode cX7_fill 16 = .ok (.ireturn, 1) := by decide +kernel
theorem dX7_fill_17 : decode cX7_fill 17 = .ok (.aload_n 0, 1) := by decide +kernel
theorem dX7_fill_18 : decode cX7_fill 18 = .ok (.getfield 102, 3) := by decide +kernel
theorem dX7_fill_21 : decode cX7_fill 21 = .ok (.ifCond .eq 19, 3) := by decide +kernel
theorem dX7_fill_24 : decode cX7_fill 24 = .ok (.aload_n 0, 1) := by decide +kernel
theorem dX7_fill_25 : decode cX7_fill 25 = .ok (.getfield 106, 3) := by decide +kernel
theorem dX7_fill_28 : decode cX7_fill 28 = .ok (.ifCond .ne 12, 3) := by decide +kernel
theorem dX7_fill_31 : decode cX7_fill 31 = .ok (.aload_n 0, 1) := by decide +kernel
theorem dX7_fill_32 : decode cX7_fill 32 = .ok (.getfield 68, 3) := by decide +kernel
theorem dX7_fill_35 : decode cX7_fill 35 = .ok (.iload_n 1, 1) := by decide +kernel
theorem dX7_fill_36 : decode cX7_fill 36 = .ok (.baload, 1) := by decide +kernel
theorem dX7_fill_37 : decode cX7_fill 37 = .ok (.ifCond .eq 6, 3) := by decide +kernel
theorem dX7_fill_40 : decode cX7_fill 40 = .ok (.bipush (-3), 2) := by decide +kernel
theorem dX7_fill_42 : decode cX7_fill 42 = .ok (.ireturn, 1) := by decide +kernel
theorem dX7_fill_43 : decode cX7_fill 43 = .ok (.aload_n 0, 1) := by decide +kernel
theorem dX7_fill_44 : decode cX7_fill 44 = .ok (.iload_n 1, 1) := by decide +kernel
theorem dX7_fill_45 : decode cX7_fill 45 = .ok (.iload_n 2, 1) := by decide +kernel
theorem dX7_fill_46 : decode cX7_fill 46 = .ok (.invokevirtual 137, 3) := by decide +kernel
theorem dX7_fill_49 : decode cX7_fill 49 = .ok (.iconst 1, 1) := by decide +kernel
theorem dX7_fill_50 : decode cX7_fill 50 = .ok (.ireturn, 1) := by decide +kernel
theorem dX7_except_0 : decode cX7_except 0 = .ok (.aload_n 0, 1) := by decide +kernel
theorem dX7_except_1 : decode cX7_except 1 = .ok (.getfield 19, 3) := by decide +kernel
theorem dX7_except_4 : decode cX7_except 4 = .ok (.iload_n 1, 1) := by decide +kernel
theorem dX7_except_5 : decode cX7_except 5 = .ok (.iaload, 1) := by decide +kernel
theorem dX7_except_6 : decode cX7_except 6 = .ok (.ifCond .eq 7, 3) := by decide +kernel
theorem dX7_except_9 : decode cX7_except 9 = .ok (.iconst 1, 1) := by decide +kernel
theorem dX7_except_10 : decode cX7_except 10 = .ok (.goto 4, 3) := by decide +kernel
theorem dX7_except_13 : decode cX7_except 13 = .ok (.iconst 0, 1) := by decide +kernel
theorem dX7_except_14 : decode cX7_except 14 = .ok (.istore_n 3, 1) := by decide +kernel
theorem dX7_except_15 : decode cX7_except 15 = .ok (.aload_n 0, 1) := by decide +kernel
theorem dX7_except_16 : decode cX7_except 16 = .ok (.getfield 56, 3) := by decide +kernel
theorem dX7_except_19 : decode cX7_except 19 = .ok (.iload_n 1, 1) := by decide +kernel
theorem dX7_except_20 : decode cX7_except 20 = .ok (.iconst (-1), 1) := by decide +kernel
theorem dX7_except_21 : decode cX7_except 21 = .ok (.iastore, 1) := by decide +kernel
theorem dX7_except_22 : decode cX7_except 22 = .ok (.aload_n 0, 1) := by decide +kernel
theorem dX7_except_23 : decode cX7_except 23 = .ok (.getfield 53, 3) := by decide +kernel
theorem dX7_except_26 : decode cX7_except 26 = .ok (.iload_n 1, 1) := by decide +kernel
theorem dX7_except_27 : decode cX7_except 27 = .ok (.bipush (-3), 2) := by decide +kernel
theorem dX7_except_29 : decode cX7_except 29 = .ok (.iastore, 1) := by decide +kernel
theorem dX7_except_30 : decode cX7_except 30 = .ok (.aload_n 0, 1) := by decide +kernel
theorem dX7_except_31 : decode cX7_except 31 = .ok (.getfield 31, 3) := by decide +kernel
theorem dX7_except_34 : decode cX7_except 34 = .ok (.iload_n 1, 1) := by decide +kernel
theorem dX7_except_35 : decode cX7_except 35 = .ok (.iaload, 1) := by decide +kernel
theorem dX7_except_36 : decode cX7_except 36 = .ok (.ifCond .le 53, 3) := by decide +kernel
theorem dX7_except_39 : decode cX7_except 39 = .ok (.aload_n 0, 1) := by decide +kernel
theorem dX7_except_40 : decode cX7_except 40 = .ok (.getfield 31, 3) := by decide +kernel
theorem dX7_except_43 : decode cX7_except 43 = .ok (.iload_n 1, 1) := by decide +kernel
theorem dX7_except_44 : decode cX7_except 44 = .ok (.dup2, 1) := by decide +kernel
theorem dX7_except_45 : decode cX7_except 45 = .ok (.iaload, 1) := by decide +kernel
theorem dX7_except_46 : decode cX7_except 46 = .ok (.iconst 1, 1) := by decide +kernel
theorem dX7_except_47 : decode cX7_except 47 = .ok (.isub, 1) := by decide +kernel
theorem dX7_except_48 : decode cX7_except 48 = .ok (.iastore, 1) := by decide +kernel
theorem dX7_except_49 : decode cX7_except 49 = .ok (.aload_n 0, 1) := by decide +kernel
theorem dX7_except_50 : decode cX7_except 50 = .ok (.getfield 25, 3) := by decide +kernel
theorem dX7_except_53 : decode cX7_except 53 = .ok (.iload_n 1, 1) := by decide +kernel
theorem dX7_except_54 : decode cX7_except 54 = .ok (.aload_n 0, 1) := by decide +kernel
theorem dX7_except_55 : decode cX7_except 55 = .ok (.getfield 34, 3) := by decide +kernel
theorem dX7_except_58 : decode cX7_except 58 = .ok (.iconst 4, 1) := by decide +kernel
theorem dX7_except_59 : decode cX7_except 59 = .ok (.iload_n 1, 1) := by decide +kernel
theorem dX7_except_60 : decode cX7_except 60 = .ok (.imul, 1) := by decide +kernel
theorem dX7_except_61 : decode cX7_except 61 = .ok (.aload_n 0, 1) := by decide +kernel
theorem dX7_except_62 : decode cX7_except 62 = .ok (.getfield 31, 3) := by decide +kernel
theorem dX7_except_65 : decode cX7_except 65 = .ok (.iload_n 1, 1) := by decide +kernel
theorem dX7_except_66 : decode cX7_except 66 = .ok (.iaload, 1) := by decide +kernel
theorem dX7_except_67 : decode cX7_except 67 = .ok (.iadd, 1) := by decide +kernel
theorem dX7_except_68 : decode cX7_except 68 = .ok (.iaload, 1) := by decide +kernel
theorem dX7_except_69 : decode cX7_except 69 = .ok (.iastore, 1) := by decide +kernel
theorem dX7_except_70 : decode cX7_except 70 = .ok (.aload_n 0, 1) := by decide +kernel
theorem dX7_except_71 : decode cX7_except 71 = .ok (.getfield 28, 3) := by decide +kernel
theorem dX7_except_74 : decode cX7_except 74 = .ok (.iload_n 1, 1) := by decide +kernel
theorem dX7_except_75 : decode cX7_except 75 = .ok (.iload_n 2, 1) := by decide +kernel
theorem dX7_except_76 : decode cX7_except 76 = .ok (.iastore, 1) := by decide +kernel
theorem dX7_except_77 : decode cX7_except 77 = .ok (.iload_n 3, 1) := by decide +kernel
theorem dX7_except_78 : decode cX7_except 78 = .ok (.ifCond .eq 25, 3) := by decide +kernel
theorem dX7_except_81 : decode cX7_except 81 = .ok (.aload_n 0, 1) := by decide +kernel
theorem dX7_except_82 : decode cX7_except 82 = .ok (.iload_n 1, 1) := by decide +kernel
theorem dX7_except_83 : decode cX7_except 83 = .ok (.invokevirtual 95, 3) := by decide +kernel
theorem dX7_except_86 : decode cX7_except 86 = .ok (.goto 17, 3) := by decide +kernel
theorem dX7_except_89 : decode cX7_except 89 = .ok (.aload_n 0, 1) := by decide +kernel
theorem dX7_except_90 : decode cX7_except 90 = .ok (.getfield 47, 3) := by decide +kernel
theorem dX7_except_93 : decode cX7_except 93 = .ok (.iload_n 1, 1) := by decide +kernel
theorem dX7_except_94 : decode cX7_except 94 = .ok (.iload_n 2, 1) := by decide +kernel
theorem dX7_except_95 : decode cX7_except 95 = .ok (.iastore, 1) := by decide +kernel
theorem dX7_except_96 : decode cX7_except 96 = .ok (.aload_n 0, 1) := by decide +kernel
theorem dX7_except_97 : decode cX7_except 97 = .ok (.iload_n 1, 1) := by decide +kernel
theorem dX7_except_98 : decode cX7_except 98 = .ok (.bipush 6, 2) := by decide +kernel
theorem dX7_except_100 : decode cX7_except 100 = .ok (.invokevirtual 141, 3) := by decide +kernel
theorem dX7_except_103 : decode cX7_except 103 = .ok (.return_, 1) := by decide +kernel
theorem dX7_finish_0 : decode cX7_finish 0 = .ok (.aload_n 0, 1) := by decide +kernel
theorem dX7_finish_1 : decode cX7_finish 1 = .ok (.getfield 19, 3) := by decide +kernel
theorem dX7_finish_4 : decode cX7_finish 4 = .ok (.iload_n 1, 1) := by decide +kernel
theorem dX7_finish_5 : decode cX7_finish 5 = .ok (.iload_n 2, 1) := by decide +kernel
theorem dX7_finish_6 : decode cX7_finish 6 = .ok (.iastore, 1) := by decide +kernel
theorem dX7_finish_7 : decode cX7_finish 7 = .ok (.aload_n 0, 1) := by decide +kernel
theorem dX7_finish_8 : decode cX7_finish 8 = .ok (.iload_n 1, 1) := by decide +kernel
theorem dX7_finish_9 : decode cX7_finish 9 = .ok (.invokevirtual 144, 3) := by decide +kernel
theorem dX7_finish_12 : decode cX7_finish 12 = .ok (.iload_n 1, 1) := by decide +kernel
theorem dX7_finish_13 : decode cX7_finish 13 = .ok (.ifCond .ne 71, 3) := by decide +kernel
theorem dX7_finish_16 : decode cX7_finish 16 = .ok (.aload_n 0, 1) := by decide +kernel
theorem dX7_finish_17 : decode cX7_finish 17 = .ok (.iconst 1, 1) := by decide +kernel
theorem dX7_finish_18 : decode cX7_finish 18 = .ok (.putfield 106, 3) := by decide +kernel
theorem dX7_finish_21 : decode cX7_finish 21 = .ok (.aload_n 0, 1) := by decide +kernel
theorem dX7_finish_22 : decode cX7_finish 22 = .ok (.iconst 0, 1) := by decide +kernel
theorem dX7_finish_23 : decode cX7_finish 23 = .ok (.putfield 99, 3) := by decide +kernel
theorem dX7_finish_26 : decode cX7_finish 26 = .ok (.iconst 0, 1) := by decide +kernel
theorem dX7_finish_27 : decode cX7_finish 27 = .ok (.istore_n 3, 1) := by decide +kernel
theorem dX7_finish_28 : decode cX7_finish 28 = .ok (.iload_n 3, 1) := by decide +kernel
theorem dX7_finish_29 : decode cX7_finish 29 = .ok (.aload_n 0, 1) := by decide +kernel
theorem dX7_finish_30 : decode cX7_finish 30 = .ok (.getfield 92, 3) := by decide +kernel
theorem dX7_finish_33 : decode cX7_finish 33 = .ok (.if_icmp .ge 51, 3) := by decide +kernel
theorem dX7_finish_36 : decode cX7_finish 36 = .ok (.aload_n 0, 1) := by decide +kernel
theorem dX7_finish_37 : decode cX7_finish 37 = .ok (.getfield 19, 3) := by decide +kernel
theorem dX7_finish_40 : decode cX7_finish 40 = .ok (.iload_n 3, 1) := by decide +kernel
theorem dX7_finish_41 : decode cX7_finish 41 = .ok (.aload_n 0, 1) := by decide +kernel
theorem dX7_finish_42 : decode cX7_finish 42 = .ok (.getfield 19, 3) := by decide +kernel
theorem dX7_finish_45 : decode cX7_finish 45 = .ok (.iload_n 3, 1) := by decide +kernel
theorem dX7_finish_46 : decode cX7_finish 46 = .ok (.iaload, 1) := by decide +kernel
theorem dX7_finish_47 : decode cX7_finish 47 = .ok (.iconst 5, 1) := by decide +kernel
theorem dX7_finish_48 : decode cX7_finish 48 = .ok (.if_icmp .ge 8, 3) := by decide +kernel
theorem dX7_finish_51 : decode cX7_finish 51 = .ok (.bipush 7, 2) := by decide +kernel
theorem dX7_finish_53 : decode cX7_finish 53 = .ok (.goto 9, 3) := by decide +kernel
theorem dX7_finish_56 : decode cX7_finish 56 = .ok (.aload_n 0, 1) := by decide +kernel
theorem dX7_finish_57 : decode cX7_finish 57 = .ok (.getfield 19, 3) := by decide +kernel
theorem dX7_finish_60 : decode cX7_finish 60 = .ok (.iload_n 3, 1) := by decide +kernel
theorem dX7_finish_61 : decode cX7_finish 61 = .ok (.iaload, 1) := by decide +kernel
theorem dX7_finish_62 : decode cX7_finish 62 = .ok (.iastore, 1) := by decide +kernel
theorem dX7_finish_63 : decode cX7_finish 63 = .ok (.aload_n 0, 1) := by decide +kernel
theorem dX7_finish_64 : decode cX7_finish 64 = .ok (.getfield 56, 3) := by decide +kernel
theorem dX7_finish_67 : decode cX7_finish 67 = .ok (.iload_n 3, 1) := by decide +kernel
theorem dX7_finish_68 : decode cX7_finish 68 = .ok (.iconst (-1), 1) := by decide +kernel
theorem dX7_finish_69 : decode cX7_finish 69 = .ok (.iastore, 1) := by decide +kernel
theorem dX7_finish_70 : decode cX7_finish 70 = .ok (.aload_n 0, 1) := by decide +kernel
theorem dX7_finish_71 : decode cX7_finish 71 = .ok (.getfield 53, 3) := by decide +kernel
theorem dX7_finish_74 : decode cX7_finish 74 = .ok (.iload_n 3, 1) := by decide +kernel
theorem dX7_finish_75 : decode cX7_finish 75 = .ok (.bipush (-3), 2) := by decide +kernel
theorem dX7_finish_77 : decode cX7_finish 77 = .ok (.iastore, 1) := by decide +kernel
theorem dX7_finish_78 : decode cX7_finish 78 = .ok (.iinc 3 1, 3) := by decide +kernel
theorem dX7_finish_81 : decode cX7_finish 81 = .ok (.goto (-53), 3) := by decide +kernel
theorem dX7_finish_84 : decode cX7_finish 84 = .ok (.return_, 1) := by decide +kernel
theorem dX7_popPending_0 : decode cX7_popPending 0 = .ok (.aload_n 0, 1) := by decide +kernel
theorem dX7_popPending_1 : decode cX7_popPending 1 = .ok (.getfield 44, 3) := by decide +kernel
theorem dX7_popPending_4 : decode cX7_popPending 4 = .ok (.iconst 4, 1) := by decide +kernel
theorem dX7_popPending_5 : decode cX7_popPending 5 = .ok (.iload_n 1, 1) := by decide +kernel
theorem dX7_popPending_6 : decode cX7_popPending 6 = .ok (.imul, 1) := by decide +kernel
theorem dX7_popPending_7 : decode cX7_popPending 7 = .ok (.iaload, 1) := by decide +kernel
theorem dX7_popPending_8 : decode cX7_popPending 8 = .ok (.istore_n 2, 1) := by decide +kernel
theorem dX7_popPending_9 : decode cX7_popPending 9 = .ok (.aload_n 0, 1) := by decide +kernel
theorem dX7_popPending_10 : decode cX7_popPending 10 = .ok (.getfield 41, 3) := by decide +kernel
theorem dX7_popPending_13 : decode cX7_popPending 13 = .ok (.iload_n 1, 1) := by decide +kernel
theorem dX7_popPending_14 : decode cX7_popPending 14 = .ok (.dup2, 1) := by decide +kernel
theorem dX7_popPending_15 : decode cX7_popPending 15 = .ok (.iaload, 1) := by decide +kernel
theorem dX7_popPending_16 : decode cX7_popPending 16 = .ok (.iconst 1, 1) := by decide +kernel
theorem dX7_popPending_17 : decode cX7_popPending 17 = .ok (.isub, 1) := by decide +kernel
theorem dX7_popPending_18 : decode cX7_popPending 18 = .ok (.iastore, 1) := by decide +kernel
theorem dX7_popPending_19 : decode cX7_popPending 19 = .ok (.iconst 0, 1) := by decide +kernel
theorem dX7_popPending_20 : decode cX7_popPending 20 = .ok (.istore_n 3, 1) := by decide +kernel
theorem dX7_popPending_21 : decode cX7_popPending 21 = .ok (.iload_n 3, 1) := by decide +kernel
theorem dX7_popPending_22 : decode cX7_popPending 22 = .ok (.aload_n 0, 1) := by decide +kernel
theorem dX7_popPending_23 : decode cX7_popPending 23 = .ok (.getfield 41, 3) := by decide +kernel
theorem dX7_popPending_26 : decode cX7_popPending 26 = .ok (.iload_n 1, 1) := by decide +kernel
theorem dX7_popPending_27 : decode cX7_popPending 27 = .ok (.iaload, 1) := by decide +kernel
theorem dX7_popPending_28 : decode cX7_popPending 28 = .ok (.if_icmp .ge 31, 3) := by decide +kernel
theorem dX7_popPending_31 : decode cX7_popPending 31 = .ok (.aload_n 0, 1) := by decide +kernel
theorem dX7_popPending_32 : decode cX7_popPending 32 = .ok (.getfield 44, 3) := by decide +kernel
theorem dX7_popPending_35 : decode cX7_popPending 35 = .ok (.iconst 4, 1) := by decide +kernel
theorem dX7_popPending_36 : decode cX7_popPending 36 = .ok (.iload_n 1, 1) := by decide +kernel
theorem dX7_popPending_37 : decode cX7_popPending 37 = .ok (.imul, 1) := by decide +kernel
theorem dX7_popPending_38 : decode cX7_popPending 38 = .ok (.iload_n 3, 1) := by decide +kernel
theorem dX7_popPending_39 : decode cX7_popPending 39 = .ok (.iadd, 1) := by decide +kernel
theorem dX7_popPending_40 : decode cX7_popPending 40 = .ok (.aload_n 0, 1) := by decide +kernel
theorem dX7_popPending_41 : decode cX7_popPending 41 = .ok (.getfield 44, 3) := by decide +kernel
theorem dX7_popPending_44 : decode cX7_popPending 44 = .ok (.iconst 4, 1) := by decide +kernel
theorem dX7_popPending_45 : decode cX7_popPending 45 = .ok (.iload_n 1, 1) := by decide +kernel
theorem dX7_popPending_46 : decode cX7_popPending 46 = .ok (.imul, 1) := by decide +kernel
theorem dX7_popPending_47 : decode cX7_popPending 47 = .ok (.iload_n 3, 1) := by decide +kernel
theorem dX7_popPending_48 : decode cX7_popPending 48 = .ok (.iadd, 1) := by decide +kernel
theorem dX7_popPending_49 : decode cX7_popPending 49 = .ok (.iconst 1, 1) := by decide +kernel
theorem dX7_popPending_50 : decode cX7_popPending 50 = .ok (.iadd, 1) := by decide +kernel
theorem dX7_popPending_51 : decode cX7_popPending 51 = .ok (.iaload, 1) := by decide +kernel
theorem dX7_popPending_52 : decode cX7_popPending 52 = .ok (.iastore, 1) := by decide +kernel
theorem dX7_popPending_53 : decode cX7_popPending 53 = .ok (.iinc 3 1, 3) := by decide +kernel
theorem dX7_popPending_56 : decode cX7_popPending 56 = .ok (.goto (-35), 3) := by decide +kernel
theorem dX7_popPending_59 : decode cX7_popPending 59 = .ok (.aload_n 0, 1) := by decide +kernel
theorem dX7_popPending_60 : decode cX7_popPending 60 = .ok (.iload_n 1, 1) := by decide +kernel
theorem dX7_popPending_61 : decode cX7_popPending 61 = .ok (.iload_n 2, 1) := by decide +kernel
theorem dX7_popPending_62 : decode cX7_popPending 62 = .ok (.invokevirtual 147, 3) := by decide +kernel
theorem dX7_popPending_65 : decode cX7_popPending 65 = .ok (.return_, 1) := by decide +kernel
theorem dX7_waitAt_0 : decode cX7_waitAt 0 = .ok (.aload_n 0, 1) := by decide +kernel
theorem dX7_waitAt_1 : decode cX7_waitAt 1 = .ok (.getfield 41, 3) := by decide +kernel
theorem dX7_waitAt_4 : decode cX7_waitAt 4 = .ok (.iload_n 1, 1) := by decide +kernel
theorem dX7_waitAt_5 : decode cX7_waitAt 5 = .ok (.iaload, 1) := by decide +kernel
theorem dX7_waitAt_6 : decode cX7_waitAt 6 = .ok (.ifCond .le 9, 3) := by decide +kernel
theorem dX7_waitAt_9 : decode cX7_waitAt 9 = .ok (.aload_n 0, 1) := by decide +kernel
theorem dX7_waitAt_10 : decode cX7_waitAt 10 = .ok (.iload_n 1, 1) := by decide +kernel
theorem dX7_waitAt_11 : decode cX7_waitAt 11 = .ok (.invokevirtual 150, 3) := by decide +kernel
theorem dX7_waitAt_14 : decode cX7_waitAt 14 = .ok (.return_, 1) := by decide +kernel
theorem dX7_waitAt_15 : decode cX7_waitAt 15 = .ok (.aload_n 0, 1) := by decide +kernel
theorem dX7_waitAt_16 : decode cX7_waitAt 16 = .ok (.getfield 19, 3) := by decide +kernel
theorem dX7_waitAt_19 : decode cX7_waitAt 19 = .ok (.iload_n 1, 1) := by decide +kernel
theorem dX7_waitAt_20 : decode cX7_waitAt 20 = .ok (.iload_n 3, 1) := by decide +kernel
theorem dX7_waitAt_21 : decode cX7_waitAt 21 = .ok (.iastore, 1) := by decide +kernel
theorem dX7_waitAt_22 : decode cX7_waitAt 22 = .ok (.aload_n 0, 1) := by decide +kernel
theorem dX7_waitAt_23 : decode cX7_waitAt 23 = .ok (.getfield 56, 3) := by decide +kernel
theorem dX7_waitAt_26 : decode cX7_waitAt 26 = .ok (.iload_n 1, 1) := by decide +kernel
theorem dX7_waitAt_27 : decode cX7_waitAt 27 = .ok (.iload_n 2, 1) := by decide +kernel
theorem dX7_waitAt_28 : decode cX7_waitAt 28 = .ok (.iastore, 1) := by decide +kernel
theorem dX7_waitAt_29 : decode cX7_waitAt 29 = .ok (.aload_n 0, 1) := by decide +kernel
theorem dX7_waitAt_30 : decode cX7_waitAt 30 = .ok (.getfield 59, 3) := by decide +kernel
theorem dX7_waitAt_33 : decode cX7_waitAt 33 = .ok (.iload_n 1, 1) := by decide +kernel
theorem dX7_waitAt_34 : decode cX7_waitAt 34 = .ok (.aload_n 0, 1) := by decide +kernel
theorem dX7_waitAt_35 : decode cX7_waitAt 35 = .ok (.getfield 124, 3) := by decide +kernel
theorem dX7_waitAt_38 : decode cX7_waitAt 38 = .ok (.iastore, 1) := by decide +kernel
theorem dX7_waitAt_39 : decode cX7_waitAt 39 = .ok (.aload_n 0, 1) := by decide +kernel
theorem dX7_waitAt_40 : decode cX7_waitAt 40 = .ok (.dup, 1) := by decide +kernel
theorem dX7_waitAt_41 : decode cX7_waitAt 41 = .ok (.getfield 124, 3) := by decide +kernel
theorem dX7_waitAt_44 : decode cX7_waitAt 44 = .ok (.iconst 1, 1) := by decide +kernel
theorem dX7_waitAt_45 : decode cX7_waitAt 45 = .ok (.iadd, 1) := by decide +kernel
theorem dX7_waitAt_46 : decode cX7_waitAt 46 = .ok (.putfield 124, 3) := by decide +kernel
theorem dX7_waitAt_49 : decode cX7_waitAt 49 = .ok (.return_, 1) := by decide +kernel
theorem dX7_throwTo_0 : decode cX7_throwTo 0 = .ok (.aload_n 0, 1) := by decide +kernel
theorem dX7_throwTo_1 : decode cX7_throwTo 1 = .ok (.getfield 28, 3) := by decide +kernel
theorem dX7_throwTo_4 : decode cX7_throwTo 4 = .ok (.iload_n 1, 1) := by decide +kernel
theorem dX7_throwTo_5 : decode cX7_throwTo 5 = .ok (.iaload, 1) := by decide +kernel
theorem dX7_throwTo_6 : decode cX7_throwTo 6 = .ok (.istore_n 3, 1) := by decide +kernel
theorem dX7_throwTo_7 : decode cX7_throwTo 7 = .ok (.iload_n 3, 1) := by decide +kernel
theorem dX7_throwTo_8 : decode cX7_throwTo 8 = .ok (.iload_n 1, 1) := by decide +kernel
theorem dX7_throwTo_9 : decode cX7_throwTo 9 = .ok (.if_icmp .ne 12, 3) := by decide +kernel
theorem dX7_throwTo_12 : decode cX7_throwTo 12 = .ok (.aload_n 0, 1) := by decide +kernel
theorem dX7_throwTo_13 : decode cX7_throwTo 13 = .ok (.iload_n 1, 1) := by decide +kernel
theorem dX7_throwTo_14 : decode cX7_throwTo 14 = .ok (.iload_n 2, 1) := by decide +kernel
theorem dX7_throwTo_15 : decode cX7_throwTo 15 = .ok (.invokevirtual 147, 3) := by decide +kernel
theorem dX7_throwTo_18 : decode cX7_throwTo 18 = .ok (.goto 90, 3) := by decide +kernel
theorem dX7_throwTo_21 : decode cX7_throwTo 21 = .ok (.iload_n 3, 1) := by decide +kernel
theorem dX7_throwTo_22 : decode cX7_throwTo 22 = .ok (.iconst 0, 1) := by decide +kernel
theorem dX7_throwTo_23 : decode cX7_throwTo 23 = .ok (.aload_n 0, 1) := by decide +kernel
theorem dX7_throwTo_24 : decode cX7_throwTo 24 = .ok (.getfield 92, 3) := by decide +kernel
theorem dX7_throwTo_27 : decode cX7_throwTo 27 = .ok (.iconst 1, 1) := by decide +kernel
theorem dX7_throwTo_28 : decode cX7_throwTo 28 = .ok (.isub, 1) := by decide +kernel
theorem dX7_throwTo_29 : decode cX7_throwTo 29 = .ok (.invokestatic 84, 3) := by decide +kernel
theorem dX7_throwTo_32 : decode cX7_throwTo 32 = .ok (.ifCond .eq 76, 3) := by decide +kernel
theorem dX7_throwTo_35 : decode cX7_throwTo 35 = .ok (.aload_n 0, 1) := by decide +kernel
theorem dX7_throwTo_36 : decode cX7_throwTo 36 = .ok (.getfield 19, 3) := by decide +kernel
theorem dX7_throwTo_39 : decode cX7_throwTo 39 = .ok (.iload_n 3, 1) := by decide +kernel
theorem dX7_throwTo_40 : decode cX7_throwTo 40 = .ok (.iaload, 1) := by decide +kernel
theorem dX7_throwTo_41 : decode cX7_throwTo 41 = .ok (.iconst 5, 1) := by decide +kernel
theorem dX7_throwTo_42 : decode cX7_throwTo 42 = .ok (.if_icmp .ge 66, 3) := by decide +kernel
theorem dX7_throwTo_45 : decode cX7_throwTo 45 = .ok (.aload_n 0, 1) := by decide +kernel
theorem dX7_throwTo_46 : decode cX7_throwTo 46 = .ok (.getfield 37, 3) := by decide +kernel
theorem dX7_throwTo_49 : decode cX7_throwTo 49 = .ok (.iload_n 3, 1) := by decide +kernel
theorem dX7_throwTo_50 : decode cX7_throwTo 50 = .ok (.baload, 1) := by decide +kernel
theorem dX7_throwTo_51 : decode cX7_throwTo 51 = .ok (.ifCond .eq 12, 3) := by decide +kernel
theorem dX7_throwTo_54 : decode cX7_throwTo 54 = .ok (.aload_n 0, 1) := by decide +kernel
theorem dX7_throwTo_55 : decode cX7_throwTo 55 = .ok (.getfield 19, 3) := by decide +kernel
theorem dX7_throwTo_58 : decode cX7_throwTo 58 = .ok (.iload_n 3, 1) := by decide +kernel
theorem dX7_throwTo_59 : decode cX7_throwTo 59 = .ok (.iaload, 1) := by decide +kernel
theorem dX7_throwTo_60 : decode cX7_throwTo 60 = .ok (.ifCond .eq 12, 3) := by decide +kernel
theorem dX7_throwTo_63 : decode cX7_throwTo 63 = .ok (.aload_n 0, 1) := by decide +kernel
theorem dX7_throwTo_64 : decode cX7_throwTo 64 = .ok (.iload_n 3, 1) := by decide +kernel
theorem dX7_throwTo_65 : decode cX7_throwTo 65 = .ok (.iload_n 2, 1) := by decide +kernel
theorem dX7_throwTo_66 : decode cX7_throwTo 66 = .ok (.invokevirtual 147, 3) := by decide +kernel
theorem dX7_throwTo_69 : decode cX7_throwTo 69 = .ok (.goto 39, 3) := by decide +kernel
theorem dX7_throwTo_72 : decode cX7_throwTo 72 = .ok (.aload_n 0, 1) := by decide +kernel
theorem dX7_throwTo_73 : decode cX7_throwTo 73 = .ok (.getfield 41, 3) := by decide +kernel
theorem dX7_throwTo_76 : decode cX7_throwTo 76 = .ok (.iload_n 3, 1) := by decide +kernel
theorem dX7_throwTo_77 : decode cX7_throwTo 77 = .ok (.iaload, 1) := by decide +kernel
theorem dX7_throwTo_78 : decode cX7_throwTo 78 = .ok (.iconst 4, 1) := by decide +kernel
theorem dX7_throwTo_79 : decode cX7_throwTo 79 = .ok (.if_icmp .ge 29, 3) := by decide +kernel
theorem dX7_throwTo_82 : decode cX7_throwTo 82 = .ok (.aload_n 0, 1) := by decide +kernel
theorem dX7_throwTo_83 : decode cX7_throwTo 83 = .ok (.getfield 44, 3) := by decide +kernel
theorem dX7_throwTo_86 : decode cX7_throwTo 86 = .ok (.iconst 4, 1) := by decide +kernel
theorem dX7_throwTo_87 : decode cX7_throwTo 87 = .ok (.iload_n 3, 1) := by decide +kernel
theorem dX7_throwTo_88 : decode cX7_throwTo 88 = .ok (.imul, 1) := by decide +kernel
theorem dX7_throwTo_89 : decode cX7_throwTo 89 = .ok (.aload_n 0, 1) := by decide +kernel
theorem dX7_throwTo_90 : decode cX7_throwTo 90 = .ok (.getfield 41, 3) := by decide +kernel
theorem dX7_throwTo_93 : decode cX7_throwTo 93 = .ok (.iload_n 3, 1) := by decide +kernel
theorem dX7_throwTo_94 : decode cX7_throwTo 94 = .ok (.iaload, 1) := by decide +kernel
theorem dX7_throwTo_95 : decode cX7_throwTo 95 = .ok (.iadd, 1) := by decide +kernel
theorem dX7_throwTo_96 : decode cX7_throwTo 96 = .ok (.iload_n 2, 1) := by decide +kernel
theorem dX7_throwTo_97 : decode cX7_throwTo 97 = .ok (.iastore, 1) := by decide +kernel
theorem dX7_throwTo_98 : decode cX7_throwTo 98 = .ok (.aload_n 0, 1) := by decide +kernel
theorem dX7_throwTo_99 : decode cX7_throwTo 99 = .ok (.getfield 41, 3) := by decide +kernel
theorem dX7_throwTo_102 : decode cX7_throwTo 102 = .ok (.iload_n 3, 1) := by decide +kernel
theorem dX7_throwTo_103 : decode cX7_throwTo 103 = .ok (.dup2, 1) := by decide +kernel
theorem dX7_throwTo_104 : decode cX7_throwTo 104 = .ok (.iaload, 1) := by decide +kernel
theorem dX7_throwTo_105 : decode cX7_throwTo 105 = .ok (.iconst 1, 1) := by decide +kernel
theorem dX7_throwTo_106 : decode cX7_throwTo 106 = .ok (.iadd, 1) := by decide +kernel
theorem dX7_throwTo_107 : decode cX7_throwTo 107 = .ok (.iastore, 1) := by decide +kernel
theorem dX7_throwTo_108 : decode cX7_throwTo 108 = .ok (.return_, 1) := by decide +kernel
theorem dX7_doAct_0 : decode cX7_doAct 0 = .ok (.bipush 20, 2) := by decide +kernel
theorem dX7_doAct_2 : decode cX7_doAct 2 = .ok (.aload_n 0, 1) := by decide +kernel
theorem dX7_doAct_3 : decode cX7_doAct 3 = .ok (.getfield 22, 3) := by decide +kernel
theorem dX7_doAct_6 : decode cX7_doAct 6 = .ok (.iload_n 1, 1) := by decide +kernel
theorem dX7_doAct_7 : decode cX7_doAct 7 = .ok (.iaload, 1) := by decide +kernel
theorem dX7_doAct_8 : decode cX7_doAct 8 = .ok (.imul, 1) := by decide +kernel
theorem dX7_doAct_9 : decode cX7_doAct 9 = .ok (.aload_n 0, 1) := by decide +kernel
theorem dX7_doAct_10 : decode cX7_doAct 10 = .ok (.getfield 25, 3) := by decide +kernel
theorem dX7_doAct_13 : decode cX7_doAct 13 = .ok (.iload_n 1, 1) := by decide +kernel
theorem dX7_doAct_14 : decode cX7_doAct 14 = .ok (.iaload, 1) := by decide +kernel
theorem dX7_doAct_15 : decode cX7_doAct 15 = .ok (.iadd, 1) := by decide +kernel
theorem dX7_doAct_16 : decode cX7_doAct 16 = .ok (.istore_n 2, 1) := by decide +kernel
theorem dX7_doAct_17 : decode cX7_doAct 17 = .ok (.aload_n 0, 1) := by decide +kernel
theorem dX7_doAct_18 : decode cX7_doAct 18 = .ok (.getfield 16, 3) := by decide +kernel
theorem dX7_doAct_21 : decode cX7_doAct 21 = .ok (.iload_n 2, 1) := by decide +kernel
theorem dX7_doAct_22 : decode cX7_doAct 22 = .ok (.iaload, 1) := by decide +kernel
theorem dX7_doAct_23 : decode cX7_doAct 23 = .ok (.istore_n 3, 1) := by decide +kernel
theorem dX7_doAct_24 : decode cX7_doAct 24 = .ok (.aload_n 0, 1) := by decide +kernel
theorem dX7_doAct_25 : decode cX7_doAct 25 = .ok (.getfield 13, 3) := by decide +kernel
theorem dX7_doAct_28 : decode cX7_doAct 28 = .ok (.iload_n 2, 1) := by decide +kernel
theorem dX7_doAct_29 : decode cX7_doAct 29 = .ok (.iaload, 1) := by decide +kernel
theorem dX7_doAct_30 : decode cX7_doAct 30 = .ok (.tableswitch 214 0 9 #[54, 93, 138, 214, 214, 214, 214, 214, 178, 186], 54) := by decide +kernel
theorem dX7_doAct_84 : decode cX7_doAct 84 = .ok (.aload_n 0, 1) := by decide +kernel
theorem dX7_doAct_85 : decode cX7_doAct 85 = .ok (.getfield 68, 3) := by decide +kernel
theorem dX7_doAct_88 : decode cX7_doAct 88 = .ok (.iload_n 3, 1) := by decide +kernel
theorem dX7_doAct_89 : decode cX7_doAct 89 = .ok (.baload, 1) := by decide +kernel
theorem dX7_doAct_90 : decode cX7_doAct 90 = .ok (.ifCond .eq 11, 3) := by decide +kernel
theorem dX7_doAct_93 : decode cX7_doAct 93 = .ok (.aload_n 0, 1) := by decide +kernel
theorem dX7_doAct_94 : decode cX7_doAct 94 = .ok (.iload_n 1, 1) := by decide +kernel
theorem dX7_doAct_95 : decode cX7_doAct 95 = .ok (.iload_n 3, 1) := by decide +kernel
theorem dX7_doAct_96 : decode cX7_doAct 96 = .ok (.iconst 1, 1) := by decide +kernel
theorem dX7_doAct_97 : decode cX7_doAct 97 = .ok (.invokevirtual 153, 3) := by decide +kernel
theorem dX7_doAct_100 : decode cX7_doAct 100 = .ok (.return_, 1) := by decide +kernel
theorem dX7_doAct_101 : decode cX7_doAct 101 = .ok (.aload_n 0, 1) := by decide +kernel
theorem dX7_doAct_102 : decode cX7_doAct 102 = .ok (.getfield 25, 3) := by decide +kernel
theorem dX7_doAct_105 : decode cX7_doAct 105 = .ok (.iload_n 1, 1) := by decide +kernel
theorem dX7_doAct_106 : decode cX7_doAct 106 = .ok (.dup2, 1) := by decide +kernel
theorem dX7_doAct_107 : decode cX7_doAct 107 = .ok (.iaload, 1) := by decide +kernel
theorem dX7_doAct_108 : decode cX7_doAct 108 = .ok (.iconst 1, 1) := by decide +kernel
theorem dX7_doAct_109 : decode cX7_doAct 109 = .ok (.iadd, 1) := by decide +kernel
theorem dX7_doAct_110 : decode cX7_doAct 110 = .ok (.iastore, 1) := by decide +kernel
theorem dX7_doAct_111 : decode cX7_doAct 111 = .ok (.aload_n 0, 1) := by decide +kernel
theorem dX7_doAct_112 : decode cX7_doAct 112 = .ok (.iload_n 3, 1) := by decide +kernel
theorem dX7_doAct_113 : decode cX7_doAct 113 = .ok (.aload_n 0, 1) := by decide +kernel
theorem dX7_doAct_114 : decode cX7_doAct 114 = .ok (.getfield 28, 3) := by decide +kernel
theorem dX7_doAct_117 : decode cX7_doAct 117 = .ok (.iload_n 1, 1) := by decide +kernel
theorem dX7_doAct_118 : decode cX7_doAct 118 = .ok (.iaload, 1) := by decide +kernel
theorem dX7_doAct_119 : decode cX7_doAct 119 = .ok (.invokevirtual 137, 3) := by decide +kernel
theorem dX7_doAct_122 : decode cX7_doAct 122 = .ok (.return_, 1) := by decide +kernel
theorem dX7_doAct_123 : decode cX7_doAct 123 = .ok (.aload_n 0, 1) := by decide +kernel
theorem dX7_doAct_124 : decode cX7_doAct 124 = .ok (.getfield 68, 3) := by decide +kernel
theorem dX7_doAct_127 : decode cX7_doAct 127 = .ok (.iload_n 3, 1) := by decide +kernel
theorem dX7_doAct_128 : decode cX7_doAct 128 = .ok (.baload, 1) := by decide +kernel
theorem dX7_doAct_129 : decode cX7_doAct 129 = .ok (.ifCond .ne 11, 3) := by decide +kernel
theorem dX7_doAct_132 : decode cX7_doAct 132 = .ok (.aload_n 0, 1) := by decide +kernel
theorem dX7_doAct_133 : decode cX7_doAct 133 = .ok (.iload_n 1, 1) := by decide +kernel
theorem dX7_doAct_134 : decode cX7_doAct 134 = .ok (.iload_n 3, 1) := by decide +kernel
theorem dX7_doAct_135 : decode cX7_doAct 135 = .ok (.iconst 2, 1) := by decide +kernel
theorem dX7_doAct_136 : decode cX7_doAct 136 = .ok (.invokevirtual 153, 3) := by decide +kernel
theorem dX7_doAct_139 : decode cX7_doAct 139 = .ok (.return_, 1) := by decide +kernel
theorem dX7_doAct_140 : decode cX7_doAct 140 = .ok (.aload_n 0, 1) := by decide +kernel
theorem dX7_doAct_141 : decode cX7_doAct 141 = .ok (.getfield 25, 3) := by decide +kernel
theorem dX7_doAct_144 : decode cX7_doAct 144 = .ok (.iload_n 1, 1) := by decide +kernel
theorem dX7_doAct_145 : decode cX7_doAct 145 = .ok (.dup2, 1) := by decide +kernel
theorem dX7_doAct_146 : decode cX7_doAct 146 = .ok (.iaload, 1) := by decide +kernel
theorem dX7_doAct_147 : decode cX7_doAct 147 = .ok (.iconst 1, 1) := by decide +kernel
theorem dX7_doAct_148 : decode cX7_doAct 148 = .ok (.iadd, 1) := by decide +kernel
theorem dX7_doAct_149 : decode cX7_doAct 149 = .ok (.iastore, 1) := by decide +kernel
theorem dX7_doAct_150 : decode cX7_doAct 150 = .ok (.aload_n 0, 1) := by decide +kernel
theorem dX7_doAct_151 : decode cX7_doAct 151 = .ok (.getfield 28, 3) := by decide +kernel
theorem dX7_doAct_154 : decode cX7_doAct 154 = .ok (.iload_n 1, 1) := by decide +kernel
theorem dX7_doAct_155 : decode cX7_doAct 155 = .ok (.aload_n 0, 1) := by decide +kernel
theorem dX7_doAct_156 : decode cX7_doAct 156 = .ok (.getfield 65, 3) := by decide +kernel
theorem dX7_doAct_159 : decode cX7_doAct 159 = .ok (.iload_n 3, 1) := by decide +kernel
theorem dX7_doAct_160 : decode cX7_doAct 160 = .ok (.iaload, 1) := by decide +kernel
theorem dX7_doAct_161 : decode cX7_doAct 161 = .ok (.iastore, 1) := by decide +kernel
theorem dX7_doAct_162 : decode cX7_doAct 162 = .ok (.aload_n 0, 1) := by decide +kernel
theorem dX7_doAct_163 : decode cX7_doAct 163 = .ok (.iload_n 3, 1) := by decide +kernel
theorem dX7_doAct_164 : decode cX7_doAct 164 = .ok (.invokevirtual 157, 3) := by decide +kernel
theorem dX7_doAct_167 : decode cX7_doAct 167 = .ok (.return_, 1) := by decide +kernel
theorem dX7_doAct_168 : decode cX7_doAct 168 = .ok (.aload_n 0, 1) := by decide +kernel
theorem dX7_doAct_169 : decode cX7_doAct 169 = .ok (.getfield 68, 3) := by decide +kernel
theorem dX7_doAct_172 : decode cX7_doAct 172 = .ok (.iload_n 3, 1) := by decide +kernel
theorem dX7_doAct_173 : decode cX7_doAct 173 = .ok (.baload, 1) := by decide +kernel
theorem dX7_doAct_174 : decode cX7_doAct 174 = .ok (.ifCond .ne 11, 3) := by decide +kernel
theorem dX7_doAct_177 : decode cX7_doAct 177 = .ok (.aload_n 0, 1) := by decide +kernel
theorem dX7_doAct_178 : decode cX7_doAct 178 = .ok (.iload_n 1, 1) := by decide +kernel
theorem dX7_doAct_179 : decode cX7_doAct 179 = .ok (.iload_n 3, 1) := by decide +kernel
theorem dX7_doAct_180 : decode cX7_doAct 180 = .ok (.iconst 3, 1) := by decide +kernel
theorem dX7_doAct_181 : decode cX7_doAct 181 = .ok (.invokevirtual 153, 3) := by decide +kernel
theorem dX7_doAct_184 : decode cX7_doAct 184 = .ok (.return_, 1) := by decide +kernel
theorem dX7_doAct_185 : decode cX7_doAct 185 = .ok (.aload_n 0, 1) := by decide +kernel
theorem dX7_doAct_186 : decode cX7_doAct 186 = .ok (.getfield 25, 3) := by decide +kernel
theorem dX7_doAct_189 : decode cX7_doAct 189 = .ok (.iload_n 1, 1) := by decide +kernel
theorem dX7_doAct_190 : decode cX7_doAct 190 = .ok (.dup2, 1) := by decide +kernel
theorem dX7_doAct_191 : decode cX7_doAct 191 = .ok (.iaload, 1) := by decide +kernel
theorem dX7_doAct_192 : decode cX7_doAct 192 = .ok (.iconst 1, 1) := by decide +kernel
theorem dX7_doAct_193 : decode cX7_doAct 193 = .ok (.iadd, 1) := by decide +kernel
theorem dX7_doAct_194 : decode cX7_doAct 194 = .ok (.iastore, 1) := by decide +kernel
theorem dX7_doAct_195 : decode cX7_doAct 195 = .ok (.aload_n 0, 1) := by decide +kernel
theorem dX7_doAct_196 : decode cX7_doAct 196 = .ok (.getfield 28, 3) := by decide +kernel
theorem dX7_doAct_199 : decode cX7_doAct 199 = .ok (.iload_n 1, 1) := by decide +kernel
theorem dX7_doAct_200 : decode cX7_doAct 200 = .ok (.aload_n 0, 1) := by decide +kernel
theorem dX7_doAct_201 : decode cX7_doAct 201 = .ok (.getfield 65, 3) := by decide +kernel
theorem dX7_doAct_204 : decode cX7_doAct 204 = .ok (.iload_n 3, 1) := by decide +kernel
theorem dX7_doAct_205 : decode cX7_doAct 205 = .ok (.iaload, 1) := by decide +kernel
theorem dX7_doAct_206 : decode cX7_doAct 206 = .ok (.iastore, 1) := by decide +kernel
theorem dX7_doAct_207 : decode cX7_doAct 207 = .ok (.return_, 1) := by decide +kernel
theorem dX7_doAct_208 : decode cX7_doAct 208 = .ok (.aload_n 0, 1) := by decide +kernel
theorem dX7_doAct_209 : decode cX7_doAct 209 = .ok (.getfield 25, 3) := by decide +kernel
theorem dX7_doAct_212 : decode cX7_doAct 212 = .ok (.iload_n 1, 1) := by decide +kernel
theorem dX7_doAct_213 : decode cX7_doAct 213 = .ok (.iload_n 3, 1) := by decide +kernel
theorem dX7_doAct_214 : decode cX7_doAct 214 = .ok (.iastore, 1) := by decide +kernel
theorem dX7_doAct_215 : decode cX7_doAct 215 = .ok (.return_, 1) := by decide +kernel
theorem dX7_doAct_216 : decode cX7_doAct 216 = .ok (.aload_n 0, 1) := by decide +kernel
theorem dX7_doAct_217 : decode cX7_doAct 217 = .ok (.getfield 25, 3) := by decide +kernel
theorem dX7_doAct_220 : decode cX7_doAct 220 = .ok (.iload_n 1, 1) := by decide +kernel
theorem dX7_doAct_221 : decode cX7_doAct 221 = .ok (.aload_n 0, 1) := by decide +kernel
theorem dX7_doAct_222 : decode cX7_doAct 222 = .ok (.getfield 28, 3) := by decide +kernel
theorem dX7_doAct_225 : decode cX7_doAct 225 = .ok (.iload_n 1, 1) := by decide +kernel
theorem dX7_doAct_226 : decode cX7_doAct 226 = .ok (.iaload, 1) := by decide +kernel
theorem dX7_doAct_227 : decode cX7_doAct 227 = .ok (.ifCond .ne 7, 3) := by decide +kernel
theorem dX7_doAct_230 : decode cX7_doAct 230 = .ok (.iload_n 3, 1) := by decide +kernel
theorem dX7_doAct_231 : decode cX7_doAct 231 = .ok (.goto 11, 3) := by decide +kernel
theorem dX7_doAct_234 : decode cX7_doAct 234 = .ok (.aload_n 0, 1) := by decide +kernel
theorem dX7_doAct_235 : decode cX7_doAct 235 = .ok (.getfield 25, 3) := by decide +kernel
theorem dX7_doAct_238 : decode cX7_doAct 238 = .ok (.iload_n 1, 1) := by decide +kernel
theorem dX7_doAct_239 : decode cX7_doAct 239 = .ok (.iaload, 1) := by decide +kernel
theorem dX7_doAct_240 : decode cX7_doAct 240 = .ok (.iconst 1, 1) := by decide +kernel
theorem dX7_doAct_241 : decode cX7_doAct 241 = .ok (.iadd, 1) := by decide +kernel
theorem dX7_doAct_242 : decode cX7_doAct 242 = .ok (.iastore, 1) := by decide +kernel
theorem dX7_doAct_243 : decode cX7_doAct 243 = .ok (.return_, 1) := by decide +kernel
theorem dX7_doAct_244 : decode cX7_doAct 244 = .ok (.aload_n 0, 1) := by decide +kernel
theorem dX7_doAct_245 : decode cX7_doAct 245 = .ok (.getfield 25, 3) := by decide +kernel
theorem dX7_doAct_248 : decode cX7_doAct 248 = .ok (.iload_n 1, 1) := by decide +kernel
theorem dX7_doAct_249 : decode cX7_doAct 249 = .ok (.dup2, 1) := by decide +kernel
theorem dX7_doAct_250 : decode cX7_doAct 250 = .ok (.iaload, 1) := by decide +kernel
theorem dX7_doAct_251 : decode cX7_doAct 251 = .ok (.iconst 1, 1) := by decide +kernel
theorem dX7_doAct_252 : decode cX7_doAct 252 = .ok (.iadd, 1) := by decide +kernel
theorem dX7_doAct_253 : decode cX7_doAct 253 = .ok (.iastore, 1) := by decide +kernel
theorem dX7_doAct_254 : decode cX7_doAct 254 = .ok (.aload_n 0, 1) := by decide +kernel
theorem dX7_doAct_255 : decode cX7_doAct 255 = .ok (.iload_n 1, 1) := by decide +kernel
theorem dX7_doAct_256 : decode cX7_doAct 256 = .ok (.aload_n 0, 1) := by decide +kernel
theorem dX7_doAct_257 : decode cX7_doAct 257 = .ok (.getfield 13, 3) := by decide +kernel
theorem dX7_doAct_260 : decode cX7_doAct 260 = .ok (.iload_n 2, 1) := by decide +kernel
theorem dX7_doAct_261 : decode cX7_doAct 261 = .ok (.iaload, 1) := by decide +kernel
theorem dX7_doAct_262 : decode cX7_doAct 262 = .ok (.iload_n 3, 1) := by decide +kernel
theorem dX7_doAct_263 : decode cX7_doAct 263 = .ok (.invokevirtual 160, 3) := by decide +kernel
theorem dX7_doAct_266 : decode cX7_doAct 266 = .ok (.return_, 1) := by decide +kernel
theorem dX7_doOther_0 : decode cX7_doOther 0 = .ok (.iload_n 2, 1) := by decide +kernel
theorem dX7_doOther_1 : decode cX7_doOther 1 = .ok (.tableswitch 359 3 15 #[67, 77, 90, 131, 139, 359, 359, 178, 225, 234, 243, 282, 308], 67) := by decide +kernel
theorem dX7_doOther_68 : decode cX7_doOther 68 = .ok (.aload_n 0, 1) := by decide +kernel
theorem dX7_doOther_69 : decode cX7_doOther 69 = .ok (.getfield 28, 3) := by decide +kernel
theorem dX7_doOther_72 : decode cX7_doOther 72 = .ok (.iload_n 1, 1) := by decide +kernel
theorem dX7_doOther_73 : decode cX7_doOther 73 = .ok (.iload_n 3, 1) := by decide +kernel
theorem dX7_doOther_74 : decode cX7_doOther 74 = .ok (.iastore, 1) := by decide +kernel
theorem dX7_doOther_75 : decode cX7_doOther 75 = .ok (.goto 292, 3) := by decide +kernel
theorem dX7_doOther_78 : decode cX7_doOther 78 = .ok (.aload_n 0, 1) := by decide +kernel
theorem dX7_doOther_79 : decode cX7_doOther 79 = .ok (.getfield 28, 3) := by decide +kernel
theorem dX7_doOther_82 : decode cX7_doOther 82 = .ok (.iload_n 1, 1) := by decide +kernel
theorem dX7_doOther_83 : decode cX7_doOther 83 = .ok (.dup2, 1) := by decide +kernel
theorem dX7_doOther_84 : decode cX7_doOther 84 = .ok (.iaload, 1) := by decide +kernel
theorem dX7_doOther_85 : decode cX7_doOther 85 = .ok (.iload_n 3, 1) := by decide +kernel
theorem dX7_doOther_86 : decode cX7_doOther 86 = .ok (.iadd, 1) := by decide +kernel
theorem dX7_doOther_87 : decode cX7_doOther 87 = .ok (.iastore, 1) := by decide +kernel
theorem dX7_doOther_88 : decode cX7_doOther 88 = .ok (.goto 279, 3) := by decide +kernel
theorem dX7_doOther_91 : decode cX7_doOther 91 = .ok (.aload_n 0, 1) := by decide +kernel
theorem dX7_doOther_92 : decode cX7_doOther 92 = .ok (.getfield 28, 3) := by decide +kernel
theorem dX7_doOther_95 : decode cX7_doOther 95 = .ok (.iload_n 1, 1) := by decide +kernel
theorem dX7_doOther_96 : decode cX7_doOther 96 = .ok (.aload_n 0, 1) := by decide +kernel
theorem dX7_doOther_97 : decode cX7_doOther 97 = .ok (.getfield 92, 3) := by decide +kernel
theorem dX7_doOther_100 : decode cX7_doOther 100 = .ok (.bipush 24, 2) := by decide +kernel
theorem dX7_doOther_102 : decode cX7_doOther 102 = .ok (.if_icmp .eq 11, 3) := by decide +kernel
theorem dX7_doOther_105 : decode cX7_doOther 105 = .ok (.iload_n 3, 1) := by decide +kernel
theorem dX7_doOther_106 : decode cX7_doOther 106 = .ok (.aload_n 0, 1) := by decide +kernel
theorem dX7_doOther_107 : decode cX7_doOther 107 = .ok (.getfield 81, 3) := by decide +kernel
theorem dX7_doOther_110 : decode cX7_doOther 110 = .ok (.if_icmp .lt 7, 3) := by decide +kernel
theorem dX7_doOther_113 : decode cX7_doOther 113 = .ok (.iconst (-1), 1) := by decide +kernel
theorem dX7_doOther_114 : decode cX7_doOther 114 = .ok (.goto 14, 3) := by decide +kernel
theorem dX7_doOther_117 : decode cX7_doOther 117 = .ok (.aload_n 0, 1) := by decide +kernel
theorem dX7_doOther_118 : decode cX7_doOther 118 = .ok (.iload_n 3, 1) := by decide +kernel
theorem dX7_doOther_119 : decode cX7_doOther 119 = .ok (.aload_n 0, 1) := by decide +kernel
theorem dX7_doOther_120 : decode cX7_doOther 120 = .ok (.getfield 28, 3) := by decide +kernel
theorem dX7_doOther_123 : decode cX7_doOther 123 = .ok (.iload_n 1, 1) := by decide +kernel
theorem dX7_doOther_124 : decode cX7_doOther 124 = .ok (.iaload, 1) := by decide +kernel
theorem dX7_doOther_125 : decode cX7_doOther 125 = .ok (.invokevirtual 127, 3) := by decide +kernel
theorem dX7_doOther_128 : decode cX7_doOther 128 = .ok (.iastore, 1) := by decide +kernel
theorem dX7_doOther_129 : decode cX7_doOther 129 = .ok (.goto 238, 3) := by decide +kernel
theorem dX7_doOther_132 : decode cX7_doOther 132 = .ok (.aload_n 0, 1) := by decide +kernel
theorem dX7_doOther_133 : decode cX7_doOther 133 = .ok (.iconst 1, 1) := by decide +kernel
theorem dX7_doOther_134 : decode cX7_doOther 134 = .ok (.putfield 163, 3) := by decide +kernel
theorem dX7_doOther_137 : decode cX7_doOther 137 = .ok (.goto 230, 3) := by decide +kernel
theorem dX7_doOther_140 : decode cX7_doOther 140 = .ok (.aload_n 0, 1) := by decide +kernel
theorem dX7_doOther_141 : decode cX7_doOther 141 = .ok (.getfield 41, 3) := by decide +kernel
theorem dX7_doOther_144 : decode cX7_doOther 144 = .ok (.iload_n 1, 1) := by decide +kernel
theorem dX7_doOther_145 : decode cX7_doOther 145 = .ok (.iaload, 1) := by decide +kernel
theorem dX7_doOther_146 : decode cX7_doOther 146 = .ok (.ifCond .le 11, 3) := by decide +kernel
theorem dX7_doOther_149 : decode cX7_doOther 149 = .ok (.aload_n 0, 1) := by decide +kernel
theorem dX7_doOther_150 : decode cX7_doOther 150 = .ok (.iload_n 1, 1) := by decide +kernel
theorem dX7_doOther_151 : decode cX7_doOther 151 = .ok (.invokevirtual 150, 3) := by decide +kernel
theorem dX7_doOther_154 : decode cX7_doOther 154 = .ok (.goto 213, 3) := by decide +kernel
theorem dX7_doOther_157 : decode cX7_doOther 157 = .ok (.aload_n 0, 1) := by decide +kernel
theorem dX7_doOther_158 : decode cX7_doOther 158 = .ok (.getfield 19, 3) := by decide +kernel
theorem dX7_doOther_161 : decode cX7_doOther 161 = .ok (.iload_n 1, 1) := by decide +kernel
theorem dX7_doOther_162 : decode cX7_doOther 162 = .ok (.iconst 4, 1) := by decide +kernel
theorem dX7_doOther_163 : decode cX7_doOther 163 = .ok (.iastore, 1) := by decide +kernel
theorem dX7_doOther_164 : decode cX7_doOther 164 = .ok (.aload_n 0, 1) := by decide +kernel
theorem dX7_doOther_165 : decode cX7_doOther 165 = .ok (.getfield 53, 3) := by decide +kernel
theorem dX7_doOther_168 : decode cX7_doOther 168 = .ok (.iload_n 1, 1) := by decide +kernel
theorem dX7_doOther_169 : decode cX7_doOther 169 = .ok (.aload_n 0, 1) := by decide +kernel
theorem dX7_doOther_170 : decode cX7_doOther 170 = .ok (.getfield 112, 3) := by decide +kernel
theorem dX7_doOther_173 : decode cX7_doOther 173 = .ok (.iload_n 3, 1) := by decide +kernel
theorem dX7_doOther_174 : decode cX7_doOther 174 = .ok (.iadd, 1) := by decide +kernel
theorem dX7_doOther_175 : decode cX7_doOther 175 = .ok (.iastore, 1) := by decide +kernel
theorem dX7_doOther_176 : decode cX7_doOther 176 = .ok (.goto 191, 3) := by decide +kernel
theorem dX7_doOther_179 : decode cX7_doOther 179 = .ok (.aload_n 0, 1) := by decide +kernel
theorem dX7_doOther_180 : decode cX7_doOther 180 = .ok (.getfield 121, 3) := by decide +kernel
theorem dX7_doOther_183 : decode cX7_doOther 183 = .ok (.bipush 100, 2) := by decide +kernel
theorem dX7_doOther_185 : decode cX7_doOther 185 = .ok (.if_icmp .ge 182, 3) := by decide +kernel
theorem dX7_doOther_188 : decode cX7_doOther 188 = .ok (.aload_n 0, 1) := by decide +kernel
theorem dX7_doOther_189 : decode cX7_doOther 189 = .ok (.getfield 71, 3) := by decide +kernel
theorem dX7_doOther_192 : decode cX7_doOther 192 = .ok (.aload_n 0, 1) := by decide +kernel
theorem dX7_doOther_193 : decode cX7_doOther 193 = .ok (.getfield 121, 3) := by decide +kernel
theorem dX7_doOther_196 : decode cX7_doOther 196 = .ok (.iload_n 1, 1) := by decide +kernel
theorem dX7_doOther_197 : decode cX7_doOther 197 = .ok (.iastore, 1) := by decide +kernel
theorem dX7_doOther_198 : decode cX7_doOther 198 = .ok (.aload_n 0, 1) := by decide +kernel
theorem dX7_doOther_199 : decode cX7_doOther 199 = .ok (.getfield 74, 3) := by decide +kernel
theorem dX7_doOther_202 : decode cX7_doOther 202 = .ok (.aload_n 0, 1) := by decide +kernel
theorem dX7_doOther_203 : decode cX7_doOther 203 = .ok (.getfield 121, 3) := by decide +kernel
theorem dX7_doOther_206 : decode cX7_doOther 206 = .ok (.aload_n 0, 1) := by decide +kernel
theorem dX7_doOther_207 : decode cX7_doOther 207 = .ok (.getfield 28, 3) := by decide +kernel
theorem dX7_doOther_210 : decode cX7_doOther 210 = .ok (.iload_n 1, 1) := by decide +kernel
theorem dX7_doOther_211 : decode cX7_doOther 211 = .ok (.iaload, 1) := by decide +kernel
theorem dX7_doOther_212 : decode cX7_doOther 212 = .ok (.iastore, 1) := by decide +kernel
theorem dX7_doOther_213 : decode cX7_doOther 213 = .ok (.aload_n 0, 1) := by decide +kernel
theorem dX7_doOther_214 : decode cX7_doOther 214 = .ok (.dup, 1) := by decide +kernel
theorem dX7_doOther_215 : decode cX7_doOther 215 = .ok (.getfield 121, 3) := by decide +kernel
theorem dX7_doOther_218 : decode cX7_doOther 218 = .ok (.iconst 1, 1) := by decide +kernel
theorem dX7_doOther_219 : decode cX7_doOther 219 = .ok (.iadd, 1) := by decide +kernel
theorem dX7_doOther_220 : decode cX7_doOther 220 = .ok (.putfield 121, 3) := by decide +kernel
theorem dX7_doOther_223 : decode cX7_doOther 223 = .ok (.goto 144, 3) := by decide +kernel
theorem dX7_doOther_226 : decode cX7_doOther 226 = .ok (.aload_n 0, 1) := by decide +kernel
theorem dX7_doOther_227 : decode cX7_doOther 227 = .ok (.iload_n 1, 1) := by decide +kernel
theorem dX7_doOther_228 : decode cX7_doOther 228 = .ok (.iload_n 3, 1) := by decide +kernel
theorem dX7_doOther_229 : decode cX7_doOther 229 = .ok (.invokevirtual 147, 3) := by decide +kernel
theorem dX7_doOther_232 : decode cX7_doOther 232 = .ok (.goto 135, 3) := by decide +kernel
theorem dX7_doOther_235 : decode cX7_doOther 235 = .ok (.aload_n 0, 1) := by decide +kernel
theorem dX7_doOther_236 : decode cX7_doOther 236 = .ok (.iload_n 1, 1) := by decide +kernel
theorem dX7_doOther_237 : decode cX7_doOther 237 = .ok (.iload_n 3, 1) := by decide +kernel
theorem dX7_doOther_238 : decode cX7_doOther 238 = .ok (.invokevirtual 166, 3) := by decide +kernel
theorem dX7_doOther_241 : decode cX7_doOther 241 = .ok (.goto 126, 3) := by decide +kernel
theorem dX7_doOther_244 : decode cX7_doOther 244 = .ok (.aload_n 0, 1) := by decide +kernel
theorem dX7_doOther_245 : decode cX7_doOther 245 = .ok (.getfield 31, 3) := by decide +kernel
theorem dX7_doOther_248 : decode cX7_doOther 248 = .ok (.iload_n 1, 1) := by decide +kernel
theorem dX7_doOther_249 : decode cX7_doOther 249 = .ok (.iaload, 1) := by decide +kernel
theorem dX7_doOther_250 : decode cX7_doOther 250 = .ok (.iconst 4, 1) := by decide +kernel
theorem dX7_doOther_251 : decode cX7_doOther 251 = .ok (.if_icmp .ge 116, 3) := by decide +kernel
theorem dX7_doOther_254 : decode cX7_doOther 254 = .ok (.aload_n 0, 1) := by decide +kernel
theorem dX7_doOther_255 : decode cX7_doOther 255 = .ok (.getfield 34, 3) := by decide +kernel
theorem dX7_doOther_258 : decode cX7_doOther 258 = .ok (.iconst 4, 1) := by decide +kernel
theorem dX7_doOther_259 : decode cX7_doOther 259 = .ok (.iload_n 1, 1) := by decide +kernel
theorem dX7_doOther_260 : decode cX7_doOther 260 = .ok (.imul, 1) := by decide +kernel
theorem dX7_doOther_261 : decode cX7_doOther 261 = .ok (.aload_n 0, 1) := by decide +kernel
theorem dX7_doOther_262 : decode cX7_doOther 262 = .ok (.getfield 31, 3) := by decide +kernel
theorem dX7_doOther_265 : decode cX7_doOther 265 = .ok (.iload_n 1, 1) := by decide +kernel
theorem dX7_doOther_266 : decode cX7_doOther 266 = .ok (.iaload, 1) := by decide +kernel
theorem dX7_doOther_267 : decode cX7_doOther 267 = .ok (.iadd, 1) := by decide +kernel
theorem dX7_doOther_268 : decode cX7_doOther 268 = .ok (.iload_n 3, 1) := by decide +kernel
theorem dX7_doOther_269 : decode cX7_doOther 269 = .ok (.iastore, 1) := by decide +kernel
theorem dX7_doOther_270 : decode cX7_doOther 270 = .ok (.aload_n 0, 1) := by decide +kernel
theorem dX7_doOther_271 : decode cX7_doOther 271 = .ok (.getfield 31, 3) := by decide +kernel
theorem dX7_doOther_274 : decode cX7_doOther 274 = .ok (.iload_n 1, 1) := by decide +kernel
theorem dX7_doOther_275 : decode cX7_doOther 275 = .ok (.dup2, 1) := by decide +kernel
theorem dX7_doOther_276 : decode cX7_doOther 276 = .ok (.iaload, 1) := by decide +kernel
theorem dX7_doOther_277 : decode cX7_doOther 277 = .ok (.iconst 1, 1) := by decide +kernel
theorem dX7_doOther_278 : decode cX7_doOther 278 = .ok (.iadd, 1) := by decide +kernel
theorem dX7_doOther_279 : decode cX7_doOther 279 = .ok (.iastore, 1) := by decide +kernel
theorem dX7_doOther_280 : decode cX7_doOther 280 = .ok (.goto 87, 3) := by decide +kernel
theorem dX7_doOther_283 : decode cX7_doOther 283 = .ok (.aload_n 0, 1) := by decide +kernel
theorem dX7_doOther_284 : decode cX7_doOther 284 = .ok (.getfield 31, 3) := by decide +kernel
theorem dX7_doOther_287 : decode cX7_doOther 287 = .ok (.iload_n 1, 1) := by decide +kernel
theorem dX7_doOther_288 : decode cX7_doOther 288 = .ok (.dup2, 1) := by decide +kernel
theorem dX7_doOther_289 : decode cX7_doOther 289 = .ok (.iaload, 1) := by decide +kernel
theorem dX7_doOther_290 : decode cX7_doOther 290 = .ok (.aload_n 0, 1) := by decide +kernel
theorem dX7_doOther_291 : decode cX7_doOther 291 = .ok (.getfield 31, 3) := by decide +kernel
theorem dX7_doOther_294 : decode cX7_doOther 294 = .ok (.iload_n 1, 1) := by decide +kernel
theorem dX7_doOther_295 : decode cX7_doOther 295 = .ok (.iaload, 1) := by decide +kernel
theorem dX7_doOther_296 : decode cX7_doOther 296 = .ok (.ifCond .le 7, 3) := by decide +kernel
theorem dX7_doOther_299 : decode cX7_doOther 299 = .ok (.iconst 1, 1) := by decide +kernel
theorem dX7_doOther_300 : decode cX7_doOther 300 = .ok (.goto 4, 3) := by decide +kernel
theorem dX7_doOther_303 : decode cX7_doOther 303 = .ok (.iconst 0, 1) := by decide +kernel
theorem dX7_doOther_304 : decode cX7_doOther 304 = .ok (.isub, 1) := by decide +kernel
theorem dX7_doOther_305 : decode cX7_doOther 305 = .ok (.iastore, 1) := by decide +kernel
theorem dX7_doOther_306 : decode cX7_doOther 306 = .ok (.goto 61, 3) := by decide +kernel
theorem dX7_doOther_309 : decode cX7_doOther 309 = .ok (.aload_n 0, 1) := by decide +kernel
theorem dX7_doOther_310 : decode cX7_doOther 310 = .ok (.getfield 37, 3) := by decide +kernel
theorem dX7_doOther_313 : decode cX7_doOther 313 = .ok (.iload_n 1, 1) := by decide +kernel
theorem dX7_doOther_314 : decode cX7_doOther 314 = .ok (.iload_n 3, 1) := by decide +kernel
theorem dX7_doOther_315 : decode cX7_doOther 315 = .ok (.iconst 1, 1) := by decide +kernel
theorem dX7_doOther_316 : decode cX7_doOther 316 = .ok (.if_icmp .ne 7, 3) := by decide +kernel
theorem dX7_doOther_319 : decode cX7_doOther 319 = .ok (.iconst 1, 1) := by decide +kernel
theorem dX7_doOther_320 : decode cX7_doOther 320 = .ok (.goto 4, 3) := by decide +kernel
theorem dX7_doOther_323 : decode cX7_doOther 323 = .ok (.iconst 0, 1) := by decide +kernel
theorem dX7_doOther_324 : decode cX7_doOther 324 = .ok (.bastore, 1) := by decide +kernel
theorem dX7_doOther_325 : decode cX7_doOther 325 = .ok (.aload_n 0, 1) := by decide +kernel
theorem dX7_doOther_326 : decode cX7_doOther 326 = .ok (.getfield 37, 3) := by decide +kernel
theorem dX7_doOther_329 : decode cX7_doOther 329 = .ok (.iload_n 1, 1) := by decide +kernel
theorem dX7_doOther_330 : decode cX7_doOther 330 = .ok (.baload, 1) := by decide +kernel
theorem dX7_doOther_331 : decode cX7_doOther 331 = .ok (.ifCond .ne 36, 3) := by decide +kernel
theorem dX7_doOther_334 : decode cX7_doOther 334 = .ok (.aload_n 0, 1) := by decide +kernel
theorem dX7_doOther_335 : decode cX7_doOther 335 = .ok (.getfield 41, 3) := by decide +kernel
theorem dX7_doOther_338 : decode cX7_doOther 338 = .ok (.iload_n 1, 1) := by decide +kernel
theorem dX7_doOther_339 : decode cX7_doOther 339 = .ok (.iaload, 1) := by decide +kernel
theorem dX7_doOther_340 : decode cX7_doOther 340 = .ok (.ifCond .le 27, 3) := by decide +kernel
theorem dX7_doOther_343 : decode cX7_doOther 343 = .ok (.aload_n 0, 1) := by decide +kernel
theorem dX7_doOther_344 : decode cX7_doOther 344 = .ok (.getfield 19, 3) := by decide +kernel
theorem dX7_doOther_347 : decode cX7_doOther 347 = .ok (.iload_n 1, 1) := by decide +kernel
theorem dX7_doOther_348 : decode cX7_doOther 348 = .ok (.iaload, 1) := by decide +kernel
theorem dX7_doOther_349 : decode cX7_doOther 349 = .ok (.ifCond .ne 18, 3) := by decide +kernel
theorem dX7_doOther_352 : decode cX7_doOther 352 = .ok (.aload_n 0, 1) := by decide +kernel
theorem dX7_doOther_353 : decode cX7_doOther 353 = .ok (.iload_n 1, 1) := by decide +kernel
theorem dX7_doOther_354 : decode cX7_doOther 354 = .ok (.invokevirtual 150, 3) := by decide +kernel
theorem dX7_doOther_357 : decode cX7_doOther 357 = .ok (.goto (-32), 3) := by decide +kernel
theorem dX7_doOther_360 : decode cX7_doOther 360 = .ok (.aload_n 0, 1) := by decide +kernel
theorem dX7_doOther_361 : decode cX7_doOther 361 = .ok (.getfield 28, 3) := by decide +kernel
theorem dX7_doOther_364 : decode cX7_doOther 364 = .ok (.iload_n 1, 1) := by decide +kernel
theorem dX7_doOther_365 : decode cX7_doOther 365 = .ok (.iload_n 1, 1) := by decide +kernel
theorem dX7_doOther_366 : decode cX7_doOther 366 = .ok (.iastore, 1) := by decide +kernel
theorem dX7_doOther_367 : decode cX7_doOther 367 = .ok (.return_, 1) := by decide +kernel
theorem dX7_wake_0 : decode cX7_wake 0 = .ok (.iconst 0, 1) := by decide +kernel
theorem dX7_wake_1 : decode cX7_wake 1 = .ok (.istore_n 1, 1) := by decide +kernel
theorem dX7_wake_2 : decode cX7_wake 2 = .ok (.iload_n 1, 1) := by decide +kernel
theorem dX7_wake_3 : decode cX7_wake 3 = .ok (.ifCond .lt 89, 3) := by decide +kernel
theorem dX7_wake_6 : decode cX7_wake 6 = .ok (.iconst (-1), 1) := by decide +kernel
theorem dX7_wake_7 : decode cX7_wake 7 = .ok (.istore_n 1, 1) := by decide +kernel
theorem dX7_wake_8 : decode cX7_wake 8 = .ok (.iconst 0, 1) := by decide +kernel
theorem dX7_wake_9 : decode cX7_wake 9 = .ok (.istore_n 2, 1) := by decide +kernel
theorem dX7_wake_10 : decode cX7_wake 10 = .ok (.iload_n 2, 1) := by decide +kernel
theorem dX7_wake_11 : decode cX7_wake 11 = .ok (.aload_n 0, 1) := by decide +kernel
theorem dX7_wake_12 : decode cX7_wake 12 = .ok (.getfield 92, 3) := by decide +kernel
theorem dX7_wake_15 : decode cX7_wake 15 = .ok (.if_icmp .ge 57, 3) := by decide +kernel
theorem dX7_wake_18 : decode cX7_wake 18 = .ok (.aload_n 0, 1) := by decide +kernel
theorem dX7_wake_19 : decode cX7_wake 19 = .ok (.getfield 19, 3) := by decide +kernel
theorem dX7_wake_22 : decode cX7_wake 22 = .ok (.iload_n 2, 1) := by decide +kernel
theorem dX7_wake_23 : decode cX7_wake 23 = .ok (.iaload, 1) := by decide +kernel
theorem dX7_wake_24 : decode cX7_wake 24 = .ok (.iconst 4, 1) := by decide +kernel
theorem dX7_wake_25 : decode cX7_wake 25 = .ok (.if_icmp .ne 39, 3) := by decide +kernel
theorem dX7_wake_28 : decode cX7_wake 28 = .ok (.aload_n 0, 1) := by decide +kernel
theorem dX7_wake_29 : decode cX7_wake 29 = .ok (.getfield 53, 3) := by decide +kernel
theorem dX7_wake_32 : decode cX7_wake 32 = .ok (.iload_n 2, 1) := by decide +kernel
theorem dX7_wake_33 : decode cX7_wake 33 = .ok (.iaload, 1) := by decide +kernel
theorem dX7_wake_34 : decode cX7_wake 34 = .ok (.aload_n 0, 1) := by decide +kernel
theorem dX7_wake_35 : decode cX7_wake 35 = .ok (.getfield 112, 3) := by decide +kernel
theorem dX7_wake_38 : decode cX7_wake 38 = .ok (.if_icmp .gt 26, 3) := by decide +kernel
theorem dX7_wake_41 : decode cX7_wake 41 = .ok (.iload_n 1, 1) := by decide +kernel
theorem dX7_wake_42 : decode cX7_wake 42 = .ok (.ifCond .lt 18, 3) := by decide +kernel
theorem dX7_wake_45 : decode cX7_wake 45 = .ok (.aload_n 0, 1) := by decide +kernel
theorem dX7_wake_46 : decode cX7_wake 46 = .ok (.getfield 53, 3) := by decide +kernel
theorem dX7_wake_49 : decode cX7_wake 49 = .ok (.iload_n 2, 1) := by decide +kernel
theorem dX7_wake_50 : decode cX7_wake 50 = .ok (.iaload, 1) := by decide +kernel
theorem dX7_wake_51 : decode cX7_wake 51 = .ok (.aload_n 0, 1) := by decide +kernel
theorem dX7_wake_52 : decode cX7_wake 52 = .ok (.getfield 53, 3) := by decide +kernel
theorem dX7_wake_55 : decode cX7_wake 55 = .ok (.iload_n 1, 1) := by decide +kernel
theorem dX7_wake_56 : decode cX7_wake 56 = .ok (.iaload, 1) := by decide +kernel
theorem dX7_wake_57 : decode cX7_wake 57 = .ok (.if_icmp .ge 7, 3) := by decide +kernel
theorem dX7_wake_60 : decode cX7_wake 60 = .ok (.iload_n 2, 1) := by decide +kernel
theorem dX7_wake_61 : decode cX7_wake 61 = .ok (.goto 4, 3) := by decide +kernel
theorem dX7_wake_64 : decode cX7_wake 64 = .ok (.iload_n 1, 1) := by decide +kernel
theorem dX7_wake_65 : decode cX7_wake 65 = .ok (.istore_n 1, 1) := by decide +kernel
theorem dX7_wake_66 : decode cX7_wake 66 = .ok (.iinc 2 1, 3) := by decide +kernel
theorem dX7_wake_69 : decode cX7_wake 69 = .ok (.goto (-59), 3) := by decide +kernel
theorem dX7_wake_72 : decode cX7_wake 72 = .ok (.iload_n 1, 1) := by decide +kernel
theorem dX7_wake_73 : decode cX7_wake 73 = .ok (.ifCond .lt (-71), 3) := by decide +kernel
theorem dX7_wake_76 : decode cX7_wake 76 = .ok (.aload_n 0, 1) := by decide +kernel
theorem dX7_wake_77 : decode cX7_wake 77 = .ok (.getfield 53, 3) := by decide +kernel
theorem dX7_wake_80 : decode cX7_wake 80 = .ok (.iload_n 1, 1) := by decide +kernel
theorem dX7_wake_81 : decode cX7_wake 81 = .ok (.bipush (-3), 2) := by decide +kernel
theorem dX7_wake_83 : decode cX7_wake 83 = .ok (.iastore, 1) := by decide +kernel
theorem dX7_wake_84 : decode cX7_wake 84 = .ok (.aload_n 0, 1) := by decide +kernel
theorem dX7_wake_85 : decode cX7_wake 85 = .ok (.iload_n 1, 1) := by decide +kernel
theorem dX7_wake_86 : decode cX7_wake 86 = .ok (.invokevirtual 95, 3) := by decide +kernel
theorem dX7_wake_89 : decode cX7_wake 89 = .ok (.goto (-87), 3) := by decide +kernel
theorem dX7_wake_92 : decode cX7_wake 92 = .ok (.return_, 1) := by decide +kernel
theorem dX7_findReady_0 : decode cX7_findReady 0 = .ok (.aload_n 0, 1) := by decide +kernel
theorem dX7_findReady_1 : decode cX7_findReady 1 = .ok (.invokevirtual 169, 3) := by decide +kernel
theorem dX7_findReady_4 : decode cX7_findReady 4 = .ok (.aload_n 0, 1) := by decide +kernel
theorem dX7_findReady_5 : decode cX7_findReady 5 = .ok (.getfield 99, 3) := by decide +kernel
theorem dX7_findReady_8 : decode cX7_findReady 8 = .ok (.ifCond .le 4, 3) := by decide +kernel
theorem dX7_findReady_11 : decode cX7_findReady 11 = .ok (.return_, 1) := by decide +kernel
theorem dX7_findReady_12 : decode cX7_findReady 12 = .ok (.iconst (-1), 1) := by decide +kernel
theorem dX7_findReady_13 : decode cX7_findReady 13 = .ok (.istore_n 1, 1) := by decide +kernel
theorem dX7_findReady_14 : decode cX7_findReady 14 = .ok (.iconst 0, 1) := by decide +kernel
theorem dX7_findReady_15 : decode cX7_findReady 15 = .ok (.istore_n 2, 1) := by decide +kernel
theorem dX7_findReady_16 : decode cX7_findReady 16 = .ok (.iload_n 2, 1) := by decide +kernel
theorem dX7_findReady_17 : decode cX7_findReady 17 = .ok (.aload_n 0, 1) := by decide +kernel
theorem dX7_findReady_18 : decode cX7_findReady 18 = .ok (.getfield 92, 3) := by decide +kernel
theorem dX7_findReady_21 : decode cX7_findReady 21 = .ok (.if_icmp .ge 44, 3) := by decide +kernel
theorem dX7_findReady_24 : decode cX7_findReady 24 = .ok (.aload_n 0, 1) := by decide +kernel
theorem dX7_findReady_25 : decode cX7_findReady 25 = .ok (.getfield 19, 3) := by decide +kernel
theorem dX7_findReady_28 : decode cX7_findReady 28 = .ok (.iload_n 2, 1) := by decide +kernel
theorem dX7_findReady_29 : decode cX7_findReady 29 = .ok (.iaload, 1) := by decide +kernel
theorem dX7_findReady_30 : decode cX7_findReady 30 = .ok (.iconst 4, 1) := by decide +kernel
theorem dX7_findReady_31 : decode cX7_findReady 31 = .ok (.if_icmp .ne 26, 3) := by decide +kernel
theorem dX7_findReady_34 : decode cX7_findReady 34 = .ok (.iload_n 1, 1) := by decide +kernel
theorem dX7_findReady_35 : decode cX7_findReady 35 = .ok (.ifCond .lt 13, 3) := by decide +kernel
theorem dX7_findReady_38 : decode cX7_findReady 38 = .ok (.aload_n 0, 1) := by decide +kernel
theorem dX7_findReady_39 : decode cX7_findReady 39 = .ok (.getfield 53, 3) := by decide +kernel
theorem dX7_findReady_42 : decode cX7_findReady 42 = .ok (.iload_n 2, 1) := by decide +kernel
theorem dX7_findReady_43 : decode cX7_findReady 43 = .ok (.iaload, 1) := by decide +kernel
theorem dX7_findReady_44 : decode cX7_findReady 44 = .ok (.iload_n 1, 1) := by decide +kernel
theorem dX7_findReady_45 : decode cX7_findReady 45 = .ok (.if_icmp .ge 12, 3) := by decide +kernel
theorem dX7_findReady_48 : decode cX7_findReady 48 = .ok (.aload_n 0, 1) := by decide +kernel
theorem dX7_findReady_49 : decode cX7_findReady 49 = .ok (.getfield 53, 3) := by decide +kernel
theorem dX7_findReady_52 : decode cX7_findReady 52 = .ok (.iload_n 2, 1) := by decide +kernel
theorem dX7_findReady_53 : decode cX7_findReady 53 = .ok (.iaload, 1) := by decide +kernel
theorem dX7_findReady_54 : decode cX7_findReady 54 = .ok (.goto 4, 3) := by decide +kernel
theorem dX7_findReady_57 : decode cX7_findReady 57 = .ok (.iload_n 1, 1) := by decide +kernel
theorem dX7_findReady_58 : decode cX7_findReady 58 = .ok (.istore_n 1, 1) := by decide +kernel
theorem dX7_findReady_59 : decode cX7_findReady 59 = .ok (.iinc 2 1, 3) := by decide +kernel
theorem dX7_findReady_62 : decode cX7_findReady 62 = .ok (.goto (-46), 3) := by decide +kernel
theorem dX7_findReady_65 : decode cX7_findReady 65 = .ok (.iload_n 1, 1) := by decide +kernel
theorem dX7_findReady_66 : decode cX7_findReady 66 = .ok (.ifCond .lt 13, 3) := by decide +kernel
theorem dX7_findReady_69 : decode cX7_findReady 69 = .ok (.aload_n 0, 1) := by decide +kernel
theorem dX7_findReady_70 : decode cX7_findReady 70 = .ok (.iload_n 1, 1) := by decide +kernel
theorem dX7_findReady_71 : decode cX7_findReady 71 = .ok (.putfield 112, 3) := by decide +kernel
theorem dX7_findReady_74 : decode cX7_findReady 74 = .ok (.aload_n 0, 1) := by decide +kernel
theorem dX7_findReady_75 : decode cX7_findReady 75 = .ok (.invokevirtual 169, 3) := by decide +kernel
theorem dX7_findReady_78 : decode cX7_findReady 78 = .ok (.return_, 1) := by decide +kernel
theorem dX7_findReady_79 : decode cX7_findReady 79 = .ok (.iconst 0, 1) := by decide +kernel
theorem dX7_findReady_80 : decode cX7_findReady 80 = .ok (.istore_n 2, 1) := by decide +kernel
theorem dX7_findReady_81 : decode cX7_findReady 81 = .ok (.iload_n 2, 1) := by decide +kernel
theorem dX7_findReady_82 : decode cX7_findReady 82 = .ok (.aload_n 0, 1) := by decide +kernel
theorem dX7_findReady_83 : decode cX7_findReady 83 = .ok (.getfield 92, 3) := by decide +kernel
theorem dX7_findReady_86 : decode cX7_findReady 86 = .ok (.if_icmp .ge 40, 3) := by decide +kernel
theorem dX7_findReady_89 : decode cX7_findReady 89 = .ok (.aload_n 0, 1) := by decide +kernel
theorem dX7_findReady_90 : decode cX7_findReady 90 = .ok (.getfield 19, 3) := by decide +kernel
theorem dX7_findReady_93 : decode cX7_findReady 93 = .ok (.iload_n 2, 1) := by decide +kernel
theorem dX7_findReady_94 : decode cX7_findReady 94 = .ok (.iaload, 1) := by decide +kernel
theorem dX7_findReady_95 : decode cX7_findReady 95 = .ok (.iconst 1, 1) := by decide +kernel
theorem dX7_findReady_96 : decode cX7_findReady 96 = .ok (.iconst 3, 1) := by decide +kernel
theorem dX7_findReady_97 : decode cX7_findReady 97 = .ok (.invokestatic 84, 3) := by decide +kernel
theorem dX7_findReady_100 : decode cX7_findReady 100 = .ok (.ifCond .eq 20, 3) := by decide +kernel
theorem dX7_findReady_103 : decode cX7_findReady 103 = .ok (.aload_n 0, 1) := by decide +kernel
theorem dX7_findReady_104 : decode cX7_findReady 104 = .ok (.dup, 1) := by decide +kernel
theorem dX7_findReady_105 : decode cX7_findReady 105 = .ok (.getfield 118, 3) := by decide +kernel
theorem dX7_findReady_108 : decode cX7_findReady 108 = .ok (.iconst 1, 1) := by decide +kernel
theorem dX7_findReady_109 : decode cX7_findReady 109 = .ok (.iadd, 1) := by decide +kernel
theorem dX7_findReady_110 : decode cX7_findReady 110 = .ok (.putfield 118, 3) := by decide +kernel
theorem dX7_findReady_113 : decode cX7_findReady 113 = .ok (.aload_n 0, 1) := by decide +kernel
theorem dX7_findReady_114 : decode cX7_findReady 114 = .ok (.iload_n 2, 1) := by decide +kernel
theorem dX7_findReady_115 : decode cX7_findReady 115 = .ok (.bipush 10, 2) := by decide +kernel
theorem dX7_findReady_117 : decode cX7_findReady 117 = .ok (.invokevirtual 147, 3) := by decide +kernel
theorem dX7_findReady_120 : decode cX7_findReady 120 = .ok (.iinc 2 1, 3) := by decide +kernel
theorem dX7_findReady_123 : decode cX7_findReady 123 = .ok (.goto (-42), 3) := by decide +kernel
theorem dX7_findReady_126 : decode cX7_findReady 126 = .ok (.return_, 1) := by decide +kernel
theorem dX7_isTurn_0 : decode cX7_isTurn 0 = .ok (.aload_n 0, 1) := by decide +kernel
theorem dX7_isTurn_1 : decode cX7_isTurn 1 = .ok (.getfield 106, 3) := by decide +kernel
theorem dX7_isTurn_4 : decode cX7_isTurn 4 = .ok (.ifCond .eq 5, 3) := by decide +kernel
theorem dX7_isTurn_7 : decode cX7_isTurn 7 = .ok (.iconst 0, 1) := by decide +kernel
theorem dX7_isTurn_8 : decode cX7_isTurn 8 = .ok (.ireturn, 1) := by decide +kernel
theorem dX7_isTurn_9 : decode cX7_isTurn 9 = .ok (.aload_n 0, 1) := by decide +kernel
theorem dX7_isTurn_10 : decode cX7_isTurn 10 = .ok (.invokevirtual 172, 3) := by decide +kernel
theorem dX7_isTurn_13 : decode cX7_isTurn 13 = .ok (.aload_n 0, 1) := by decide +kernel
theorem dX7_isTurn_14 : decode cX7_isTurn 14 = .ok (.getfield 106, 3) := by decide +kernel
theorem dX7_isTurn_17 : decode cX7_isTurn 17 = .ok (.ifCond .ne 10, 3) := by decide +kernel
theorem dX7_isTurn_20 : decode cX7_isTurn 20 = .ok (.aload_n 0, 1) := by decide +kernel
theorem dX7_isTurn_21 : decode cX7_isTurn 21 = .ok (.getfield 99, 3) := by decide +kernel
theorem dX7_isTurn_24 : decode cX7_isTurn 24 = .ok (.ifCond .ne 5, 3) := by decide +kernel
theorem dX7_isTurn_27 : decode cX7_isTurn 27 = .ok (.iconst 0, 1) := by decide +kernel
theorem dX7_isTurn_28 : decode cX7_isTurn 28 = .ok (.ireturn, 1) := by decide +kernel
theorem dX7_isTurn_29 : decode cX7_isTurn 29 = .ok (.aload_n 0, 1) := by decide +kernel
theorem dX7_isTurn_30 : decode cX7_isTurn 30 = .ok (.getfield 62, 3) := by decide +kernel
theorem dX7_isTurn_33 : decode cX7_isTurn 33 = .ok (.iconst 0, 1) := by decide +kernel
theorem dX7_isTurn_34 : decode cX7_isTurn 34 = .ok (.iaload, 1) := by decide +kernel
theorem dX7_isTurn_35 : decode cX7_isTurn 35 = .ok (.istore_n 1, 1) := by decide +kernel
theorem dX7_isTurn_36 : decode cX7_isTurn 36 = .ok (.aload_n 0, 1) := by decide +kernel
theorem dX7_isTurn_37 : decode cX7_isTurn 37 = .ok (.iload_n 1, 1) := by decide +kernel
theorem dX7_isTurn_38 : decode cX7_isTurn 38 = .ok (.invokevirtual 144, 3) := by decide +kernel
theorem dX7_isTurn_41 : decode cX7_isTurn 41 = .ok (.aload_n 0, 1) := by decide +kernel
theorem dX7_isTurn_42 : decode cX7_isTurn 42 = .ok (.iconst 0, 1) := by decide +kernel
theorem dX7_isTurn_43 : decode cX7_isTurn 43 = .ok (.putfield 163, 3) := by decide +kernel
theorem dX7_isTurn_46 : decode cX7_isTurn 46 = .ok (.aload_n 0, 1) := by decide +kernel
theorem dX7_isTurn_47 : decode cX7_isTurn 47 = .ok (.getfield 50, 3) := by decide +kernel
theorem dX7_isTurn_50 : decode cX7_isTurn 50 = .ok (.iload_n 1, 1) := by decide +kernel
theorem dX7_isTurn_51 : decode cX7_isTurn 51 = .ok (.dup2, 1) := by decide +kernel
theorem dX7_isTurn_52 : decode cX7_isTurn 52 = .ok (.iaload, 1) := by decide +kernel
theorem dX7_isTurn_53 : decode cX7_isTurn 53 = .ok (.iconst 1, 1) := by decide +kernel
theorem dX7_isTurn_54 : decode cX7_isTurn 54 = .ok (.iadd, 1) := by decide +kernel
theorem dX7_isTurn_55 : decode cX7_isTurn 55 = .ok (.iastore, 1) := by decide +kernel
theorem dX7_isTurn_56 : decode cX7_isTurn 56 = .ok (.aload_n 0, 1) := by decide +kernel
theorem dX7_isTurn_57 : decode cX7_isTurn 57 = .ok (.dup, 1) := by decide +kernel
theorem dX7_isTurn_58 : decode cX7_isTurn 58 = .ok (.getfield 115, 3) := by decide +kernel
theorem dX7_isTurn_61 : decode cX7_isTurn 61 = .ok (.iconst 1, 1) := by decide +kernel
theorem dX7_isTurn_62 : decode cX7_isTurn 62 = .ok (.iadd, 1) := by decide +kernel
theorem dX7_isTurn_63 : decode cX7_isTurn 63 = .ok (.putfield 115, 3) := by decide +kernel
theorem dX7_isTurn_66 : decode cX7_isTurn 66 = .ok (.iconst 0, 1) := by decide +kernel
theorem dX7_isTurn_67 : decode cX7_isTurn 67 = .ok (.istore_n 2, 1) := by decide +kernel
theorem dX7_isTurn_68 : decode cX7_isTurn 68 = .ok (.iload_n 2, 1) := by decide +kernel
theorem dX7_isTurn_69 : decode cX7_isTurn 69 = .ok (.aload_n 0, 1) := by decide +kernel
theorem dX7_isTurn_70 : decode cX7_isTurn 70 = .ok (.getfield 109, 3) := by decide +kernel
theorem dX7_isTurn_73 : decode cX7_isTurn 73 = .ok (.if_icmp .ge 59, 3) := by decide +kernel
theorem dX7_isTurn_76 : decode cX7_isTurn 76 = .ok (.aload_n 0, 1) := by decide +kernel
theorem dX7_isTurn_77 : decode cX7_isTurn 77 = .ok (.getfield 19, 3) := by decide +kernel
theorem dX7_isTurn_80 : decode cX7_isTurn 80 = .ok (.iload_n 1, 1) := by decide +kernel
theorem dX7_isTurn_81 : decode cX7_isTurn 81 = .ok (.iaload, 1) := by decide +kernel
theorem dX7_isTurn_82 : decode cX7_isTurn 82 = .ok (.ifCond .ne 50, 3) := by decide +kernel
theorem dX7_isTurn_85 : decode cX7_isTurn 85 = .ok (.aload_n 0, 1) := by decide +kernel
theorem dX7_isTurn_86 : decode cX7_isTurn 86 = .ok (.getfield 163, 3) := by decide +kernel
theorem dX7_isTurn_89 : decode cX7_isTurn 89 = .ok (.ifCond .ne 43, 3) := by decide +kernel
theorem dX7_isTurn_92 : decode cX7_isTurn 92 = .ok (.aload_n 0, 1) := by decide +kernel
theorem dX7_isTurn_93 : decode cX7_isTurn 93 = .ok (.getfield 25, 3) := by decide +kernel
theorem dX7_isTurn_96 : decode cX7_isTurn 96 = .ok (.iload_n 1, 1) := by decide +kernel
theorem dX7_isTurn_97 : decode cX7_isTurn 97 = .ok (.iaload, 1) := by decide +kernel
theorem dX7_isTurn_98 : decode cX7_isTurn 98 = .ok (.aload_n 0, 1) := by decide +kernel
theorem dX7_isTurn_99 : decode cX7_isTurn 99 = .ok (.getfield 7, 3) := by decide +kernel
theorem dX7_isTurn_102 : decode cX7_isTurn 102 = .ok (.aload_n 0, 1) := by decide +kernel
theorem dX7_isTurn_103 : decode cX7_isTurn 103 = .ok (.getfield 22, 3) := by decide +kernel
theorem dX7_isTurn_106 : decode cX7_isTurn 106 = .ok (.iload_n 1, 1) := by decide +kernel
theorem dX7_isTurn_107 : decode cX7_isTurn 107 = .ok (.iaload, 1) := by decide +kernel
theorem dX7_isTurn_108 : decode cX7_isTurn 108 = .ok (.iaload, 1) := by decide +kernel
theorem dX7_isTurn_109 : decode cX7_isTurn 109 = .ok (.if_icmp .lt 12, 3) := by decide +kernel
theorem dX7_isTurn_112 : decode cX7_isTurn 112 = .ok (.aload_n 0, 1) := by decide +kernel
theorem dX7_isTurn_113 : decode cX7_isTurn 113 = .ok (.iload_n 1, 1) := by decide +kernel
theorem dX7_isTurn_114 : decode cX7_isTurn 114 = .ok (.iconst 5, 1) := by decide +kernel
theorem dX7_isTurn_115 : decode cX7_isTurn 115 = .ok (.invokevirtual 141, 3) := by decide +kernel
theorem dX7_isTurn_118 : decode cX7_isTurn 118 = .ok (.goto 8, 3) := by decide +kernel
theorem dX7_isTurn_121 : decode cX7_isTurn 121 = .ok (.aload_n 0, 1) := by decide +kernel
theorem dX7_isTurn_122 : decode cX7_isTurn 122 = .ok (.iload_n 1, 1) := by decide +kernel
theorem dX7_isTurn_123 : decode cX7_isTurn 123 = .ok (.invokevirtual 175, 3) := by decide +kernel
theorem dX7_isTurn_126 : decode cX7_isTurn 126 = .ok (.iinc 2 1, 3) := by decide +kernel
theorem dX7_isTurn_129 : decode cX7_isTurn 129 = .ok (.goto (-61), 3) := by decide +kernel
theorem dX7_isTurn_132 : decode cX7_isTurn 132 = .ok (.aload_n 0, 1) := by decide +kernel
theorem dX7_isTurn_133 : decode cX7_isTurn 133 = .ok (.getfield 19, 3) := by decide +kernel
theorem dX7_isTurn_136 : decode cX7_isTurn 136 = .ok (.iload_n 1, 1) := by decide +kernel
theorem dX7_isTurn_137 : decode cX7_isTurn 137 = .ok (.iaload, 1) := by decide +kernel
theorem dX7_isTurn_138 : decode cX7_isTurn 138 = .ok (.ifCond .ne 8, 3) := by decide +kernel
theorem dX7_isTurn_141 : decode cX7_isTurn 141 = .ok (.aload_n 0, 1) := by decide +kernel
theorem dX7_isTurn_142 : decode cX7_isTurn 142 = .ok (.iload_n 1, 1) := by decide +kernel
theorem dX7_isTurn_143 : decode cX7_isTurn 143 = .ok (.invokevirtual 95, 3) := by decide +kernel
theorem dX7_isTurn_146 : decode cX7_isTurn 146 = .ok (.aload_n 0, 1) := by decide +kernel
theorem dX7_isTurn_147 : decode cX7_isTurn 147 = .ok (.dup, 1) := by decide +kernel
theorem dX7_isTurn_148 : decode cX7_isTurn 148 = .ok (.getfield 112, 3) := by decide +kernel
theorem dX7_isTurn_151 : decode cX7_isTurn 151 = .ok (.iconst 1, 1) := by decide +kernel
theorem dX7_isTurn_152 : decode cX7_isTurn 152 = .ok (.iadd, 1) := by decide +kernel
theorem dX7_isTurn_153 : decode cX7_isTurn 153 = .ok (.putfield 112, 3) := by decide +kernel
theorem dX7_isTurn_156 : decode cX7_isTurn 156 = .ok (.iconst 1, 1) := by decide +kernel
theorem dX7_isTurn_157 : decode cX7_isTurn 157 = .ok (.ireturn, 1) := by decide +kernel
theorem dX7_step_0 : decode cX7_step 0 = .ok (.aload_n 0, 1) := by decide +kernel
theorem dX7_step_1 : decode cX7_step 1 = .ok (.iconst 0, 1) := by decide +kernel
theorem dX7_step_2 : decode cX7_step 2 = .ok (.putfield 77, 3) := by decide +kernel
theorem dX7_step_5 : decode cX7_step 5 = .ok (.iload_n 1, 1) := by decide +kernel
theorem dX7_step_6 : decode cX7_step 6 = .ok (.iconst 1, 1) := by decide +kernel
theorem dX7_step_7 : decode cX7_step 7 = .ok (.sipush 500, 3) := by decide +kernel
theorem dX7_step_10 : decode cX7_step 10 = .ok (.invokestatic 84, 3) := by decide +kernel
theorem dX7_step_13 : decode cX7_step 13 = .ok (.ifCond .ne 6, 3) := by decide +kernel
theorem dX7_step_16 : decode cX7_step 16 = .ok (.bipush (-2), 2) := by decide +kernel
theorem dX7_step_18 : decode cX7_step 18 = .ok (.ireturn, 1) := by decide +kernel
theorem dX7_step_19 : decode cX7_step 19 = .ok (.aload_n 0, 1) := by decide +kernel
theorem dX7_step_20 : decode cX7_step 20 = .ok (.getfield 102, 3) := by decide +kernel
theorem dX7_step_23 : decode cX7_step 23 = .ok (.ifCond .ne 6, 3) := by decide +kernel
theorem dX7_step_26 : decode cX7_step 26 = .ok (.bipush (-3), 2) := by decide +kernel
theorem dX7_step_28 : decode cX7_step 28 = .ok (.ireturn, 1) := by decide +kernel
theorem dX7_step_29 : decode cX7_step 29 = .ok (.aload_n 0, 1) := by decide +kernel
theorem dX7_step_30 : decode cX7_step 30 = .ok (.getfield 115, 3) := by decide +kernel
theorem dX7_step_33 : decode cX7_step 33 = .ok (.iload_n 1, 1) := by decide +kernel
theorem dX7_step_34 : decode cX7_step 34 = .ok (.iadd, 1) := by decide +kernel
theorem dX7_step_35 : decode cX7_step 35 = .ok (.sipush 3000, 3) := by decide +kernel
theorem dX7_step_38 : decode cX7_step 38 = .ok (.if_icmp .le 6, 3) := by decide +kernel
theorem dX7_step_41 : decode cX7_step 41 = .ok (.bipush (-4), 2) := by decide +kernel
theorem dX7_step_43 : decode cX7_step 43 = .ok (.ireturn, 1) := by decide +kernel
theorem dX7_step_44 : decode cX7_step 44 = .ok (.iconst 0, 1) := by decide +kernel
theorem dX7_step_45 : decode cX7_step 45 = .ok (.istore_n 2, 1) := by decide +kernel
theorem dX7_step_46 : decode cX7_step 46 = .ok (.iload_n 2, 1) := by decide +kernel
theorem dX7_step_47 : decode cX7_step 47 = .ok (.iload_n 1, 1) := by decide +kernel
theorem dX7_step_48 : decode cX7_step 48 = .ok (.if_icmp .ge 16, 3) := by decide +kernel
theorem dX7_step_51 : decode cX7_step 51 = .ok (.aload_n 0, 1) := by decide +kernel
theorem dX7_step_52 : decode cX7_step 52 = .ok (.invokevirtual 178, 3) := by decide +kernel
theorem dX7_step_55 : decode cX7_step 55 = .ok (.ifCond .eq 9, 3) := by decide +kernel
theorem dX7_step_58 : decode cX7_step 58 = .ok (.iinc 2 1, 3) := by decide +kernel
theorem dX7_step_61 : decode cX7_step 61 = .ok (.goto (-15), 3) := by decide +kernel
theorem dX7_step_64 : decode cX7_step 64 = .ok (.iload_n 2, 1) := by decide +kernel
theorem dX7_step_65 : decode cX7_step 65 = .ok (.ireturn, 1) := by decide +kernel
theorem dX7_told_0 : decode cX7_told 0 = .ok (.aload_n 0, 1) := by decide +kernel
theorem dX7_told_1 : decode cX7_told 1 = .ok (.iconst 0, 1) := by decide +kernel
theorem dX7_told_2 : decode cX7_told 2 = .ok (.putfield 77, 3) := by decide +kernel
theorem dX7_told_5 : decode cX7_told 5 = .ok (.iload_n 1, 1) := by decide +kernel
theorem dX7_told_6 : decode cX7_told 6 = .ok (.iconst 0, 1) := by decide +kernel
theorem dX7_told_7 : decode cX7_told 7 = .ok (.iconst 5, 1) := by decide +kernel
theorem dX7_told_8 : decode cX7_told 8 = .ok (.invokestatic 84, 3) := by decide +kernel
theorem dX7_told_11 : decode cX7_told 11 = .ok (.ifCond .ne 6, 3) := by decide +kernel
theorem dX7_told_14 : decode cX7_told 14 = .ok (.bipush (-2), 2) := by decide +kernel
theorem dX7_told_16 : decode cX7_told 16 = .ok (.ireturn, 1) := by decide +kernel
theorem dX7_told_17 : decode cX7_told 17 = .ok (.aload_n 0, 1) := by decide +kernel
theorem dX7_told_18 : decode cX7_told 18 = .ok (.getfield 102, 3) := by decide +kernel
theorem dX7_told_21 : decode cX7_told 21 = .ok (.ifCond .ne 6, 3) := by decide +kernel
theorem dX7_told_24 : decode cX7_told 24 = .ok (.bipush (-3), 2) := by decide +kernel
theorem dX7_told_26 : decode cX7_told 26 = .ok (.ireturn, 1) := by decide +kernel
theorem dX7_told_27 : decode cX7_told 27 = .ok (.iload_n 1, 1) := by decide +kernel
theorem dX7_told_28 : decode cX7_told 28 = .ok (.ifCond .ne 18, 3) := by decide +kernel
theorem dX7_told_31 : decode cX7_told 31 = .ok (.aload_n 0, 1) := by decide +kernel
theorem dX7_told_32 : decode cX7_told 32 = .ok (.getfield 106, 3) := by decide +kernel
theorem dX7_told_35 : decode cX7_told 35 = .ok (.ifCond .eq 7, 3) := by decide +kernel
theorem dX7_told_38 : decode cX7_told 38 = .ok (.iconst 1, 1) := by decide +kernel
theorem dX7_told_39 : decode cX7_told 39 = .ok (.goto 59, 3) := by decide +kernel
theorem dX7_told_42 : decode cX7_told 42 = .ok (.iconst 0, 1) := by decide +kernel
theorem dX7_told_43 : decode cX7_told 43 = .ok (.goto 55, 3) := by decide +kernel
theorem dX7_told_46 : decode cX7_told 46 = .ok (.iload_n 1, 1) := by decide +kernel
theorem dX7_told_47 : decode cX7_told 47 = .ok (.iconst 1, 1) := by decide +kernel
theorem dX7_told_48 : decode cX7_told 48 = .ok (.if_icmp .ne 10, 3) := by decide +kernel
theorem dX7_told_51 : decode cX7_told 51 = .ok (.aload_n 0, 1) := by decide +kernel
theorem dX7_told_52 : decode cX7_told 52 = .ok (.getfield 112, 3) := by decide +kernel
theorem dX7_told_55 : decode cX7_told 55 = .ok (.goto 43, 3) := by decide +kernel
theorem dX7_told_58 : decode cX7_told 58 = .ok (.iload_n 1, 1) := by decide +kernel
theorem dX7_told_59 : decode cX7_told 59 = .ok (.iconst 2, 1) := by decide +kernel
theorem dX7_told_60 : decode cX7_told 60 = .ok (.if_icmp .ne 10, 3) := by decide +kernel
theorem dX7_told_63 : decode cX7_told 63 = .ok (.aload_n 0, 1) := by decide +kernel
theorem dX7_told_64 : decode cX7_told 64 = .ok (.getfield 115, 3) := by decide +kernel
theorem dX7_told_67 : decode cX7_told 67 = .ok (.goto 31, 3) := by decide +kernel
theorem dX7_told_70 : decode cX7_told 70 = .ok (.iload_n 1, 1) := by decide +kernel
theorem dX7_told_71 : decode cX7_told 71 = .ok (.iconst 3, 1) := by decide +kernel
theorem dX7_told_72 : decode cX7_told 72 = .ok (.if_icmp .ne 10, 3) := by decide +kernel
theorem dX7_told_75 : decode cX7_told 75 = .ok (.aload_n 0, 1) := by decide +kernel
theorem dX7_told_76 : decode cX7_told 76 = .ok (.getfield 92, 3) := by decide +kernel
theorem dX7_told_79 : decode cX7_told 79 = .ok (.goto 19, 3) := by decide +kernel
theorem dX7_told_82 : decode cX7_told 82 = .ok (.iload_n 1, 1) := by decide +kernel
theorem dX7_told_83 : decode cX7_told 83 = .ok (.iconst 4, 1) := by decide +kernel
theorem dX7_told_84 : decode cX7_told 84 = .ok (.if_icmp .ne 10, 3) := by decide +kernel
theorem dX7_told_87 : decode cX7_told 87 = .ok (.aload_n 0, 1) := by decide +kernel
theorem dX7_told_88 : decode cX7_told 88 = .ok (.getfield 99, 3) := by decide +kernel
theorem dX7_told_91 : decode cX7_told 91 = .ok (.goto 7, 3) := by decide +kernel
theorem dX7_told_94 : decode cX7_told 94 = .ok (.aload_n 0, 1) := by decide +kernel
theorem dX7_told_95 : decode cX7_told 95 = .ok (.getfield 118, 3) := by decide +kernel
theorem dX7_told_98 : decode cX7_told 98 = .ok (.ireturn, 1) := by decide +kernel
theorem dX7_thread_0 : decode cX7_thread 0 = .ok (.aload_n 0, 1) := by decide +kernel
theorem dX7_thread_1 : decode cX7_thread 1 = .ok (.iconst 0, 1) := by decide +kernel
theorem dX7_thread_2 : decode cX7_thread 2 = .ok (.putfield 77, 3) := by decide +kernel
theorem dX7_thread_5 : decode cX7_thread 5 = .ok (.aload_n 0, 1) := by decide +kernel
theorem dX7_thread_6 : decode cX7_thread 6 = .ok (.getfield 102, 3) := by decide +kernel
theorem dX7_thread_9 : decode cX7_thread 9 = .ok (.ifCond .eq 17, 3) := by decide +kernel
theorem dX7_thread_12 : decode cX7_thread 12 = .ok (.iload_n 1, 1) := by decide +kernel
theorem dX7_thread_13 : decode cX7_thread 13 = .ok (.iconst 0, 1) := by decide +kernel
theorem dX7_thread_14 : decode cX7_thread 14 = .ok (.aload_n 0, 1) := by decide +kernel
theorem dX7_thread_15 : decode cX7_thread 15 = .ok (.getfield 92, 3) := by decide +kernel
theorem dX7_thread_18 : decode cX7_thread 18 = .ok (.iconst 1, 1) := by decide +kernel
theorem dX7_thread_19 : decode cX7_thread 19 = .ok (.isub, 1) := by decide +kernel
theorem dX7_thread_20 : decode cX7_thread 20 = .ok (.invokestatic 84, 3) := by decide +kernel
theorem dX7_thread_23 : decode cX7_thread 23 = .ok (.ifCond .ne 5, 3) := by decide +kernel
theorem dX7_thread_26 : decode cX7_thread 26 = .ok (.iconst (-1), 1) := by decide +kernel
theorem dX7_thread_27 : decode cX7_thread 27 = .ok (.ireturn, 1) := by decide +kernel
theorem dX7_thread_28 : decode cX7_thread 28 = .ok (.iload_n 2, 1) := by decide +kernel
theorem dX7_thread_29 : decode cX7_thread 29 = .ok (.tableswitch 148 0 9 #[55, 62, 69, 91, 98, 105, 120, 127, 134, 141], 55) := by decide +kernel
theorem dX7_thread_84 : decode cX7_thread 84 = .ok (.aload_n 0, 1) := by decide +kernel
theorem dX7_thread_85 : decode cX7_thread 85 = .ok (.getfield 19, 3) := by decide +kernel
theorem dX7_thread_88 : decode cX7_thread 88 = .ok (.iload_n 1, 1) := by decide +kernel
theorem dX7_thread_89 : decode cX7_thread 89 = .ok (.iaload, 1) := by decide +kernel
theorem dX7_thread_90 : decode cX7_thread 90 = .ok (.ireturn, 1) := by decide +kernel
theorem dX7_thread_91 : decode cX7_thread 91 = .ok (.aload_n 0, 1) := by decide +kernel
theorem dX7_thread_92 : decode cX7_thread 92 = .ok (.getfield 22, 3) := by decide +kernel
theorem dX7_thread_95 : decode cX7_thread 95 = .ok (.iload_n 1, 1) := by decide +kernel
theorem dX7_thread_96 : decode cX7_thread 96 = .ok (.iaload, 1) := by decide +kernel
theorem dX7_thread_97 : decode cX7_thread 97 = .ok (.ireturn, 1) := by decide +kernel
theorem dX7_thread_98 : decode cX7_thread 98 = .ok (.aload_n 0, 1) := by decide +kernel
theorem dX7_thread_99 : decode cX7_thread 99 = .ok (.getfield 19, 3) := by decide +kernel
theorem dX7_thread_102 : decode cX7_thread 102 = .ok (.iload_n 1, 1) := by decide +kernel
theorem dX7_thread_103 : decode cX7_thread 103 = .ok (.iaload, 1) := by decide +kernel
theorem dX7_thread_104 : decode cX7_thread 104 = .ok (.iconst 4, 1) := by decide +kernel
theorem dX7_thread_105 : decode cX7_thread 105 = .ok (.if_icmp .le 8, 3) := by decide +kernel
theorem dX7_thread_108 : decode cX7_thread 108 = .ok (.bipush (-3), 2) := by decide +kernel
theorem dX7_thread_110 : decode cX7_thread 110 = .ok (.goto 9, 3) := by decide +kernel
theorem dX7_thread_113 : decode cX7_thread 113 = .ok (.aload_n 0, 1) := by decide +kernel
theorem dX7_thread_114 : decode cX7_thread 114 = .ok (.getfield 25, 3) := by decide +kernel
theorem dX7_thread_117 : decode cX7_thread 117 = .ok (.iload_n 1, 1) := by decide +kernel
theorem dX7_thread_118 : decode cX7_thread 118 = .ok (.iaload, 1) := by decide +kernel
theorem dX7_thread_119 : decode cX7_thread 119 = .ok (.ireturn, 1) := by decide +kernel
theorem dX7_thread_120 : decode cX7_thread 120 = .ok (.aload_n 0, 1) := by decide +kernel
theorem dX7_thread_121 : decode cX7_thread 121 = .ok (.getfield 28, 3) := by decide +kernel
theorem dX7_thread_124 : decode cX7_thread 124 = .ok (.iload_n 1, 1) := by decide +kernel
theorem dX7_thread_125 : decode cX7_thread 125 = .ok (.iaload, 1) := by decide +kernel
theorem dX7_thread_126 : decode cX7_thread 126 = .ok (.ireturn, 1) := by decide +kernel
theorem dX7_thread_127 : decode cX7_thread 127 = .ok (.aload_n 0, 1) := by decide +kernel
theorem dX7_thread_128 : decode cX7_thread 128 = .ok (.getfield 31, 3) := by decide +kernel
theorem dX7_thread_131 : decode cX7_thread 131 = .ok (.iload_n 1, 1) := by decide +kernel
theorem dX7_thread_132 : decode cX7_thread 132 = .ok (.iaload, 1) := by decide +kernel
theorem dX7_thread_133 : decode cX7_thread 133 = .ok (.ireturn, 1) := by decide +kernel
theorem dX7_thread_134 : decode cX7_thread 134 = .ok (.aload_n 0, 1) := by decide +kernel
theorem dX7_thread_135 : decode cX7_thread 135 = .ok (.getfield 37, 3) := by decide +kernel
theorem dX7_thread_138 : decode cX7_thread 138 = .ok (.iload_n 1, 1) := by decide +kernel
theorem dX7_thread_139 : decode cX7_thread 139 = .ok (.baload, 1) := by decide +kernel
theorem dX7_thread_140 : decode cX7_thread 140 = .ok (.ifCond .eq 7, 3) := by decide +kernel
theorem dX7_thread_143 : decode cX7_thread 143 = .ok (.iconst 1, 1) := by decide +kernel
theorem dX7_thread_144 : decode cX7_thread 144 = .ok (.goto 4, 3) := by decide +kernel
theorem dX7_thread_147 : decode cX7_thread 147 = .ok (.iconst 0, 1) := by decide +kernel
theorem dX7_thread_148 : decode cX7_thread 148 = .ok (.ireturn, 1) := by decide +kernel
theorem dX7_thread_149 : decode cX7_thread 149 = .ok (.aload_n 0, 1) := by decide +kernel
theorem dX7_thread_150 : decode cX7_thread 150 = .ok (.getfield 41, 3) := by decide +kernel
theorem dX7_thread_153 : decode cX7_thread 153 = .ok (.iload_n 1, 1) := by decide +kernel
theorem dX7_thread_154 : decode cX7_thread 154 = .ok (.iaload, 1) := by decide +kernel
theorem dX7_thread_155 : decode cX7_thread 155 = .ok (.ireturn, 1) := by decide +kernel
theorem dX7_thread_156 : decode cX7_thread 156 = .ok (.aload_n 0, 1) := by decide +kernel
theorem dX7_thread_157 : decode cX7_thread 157 = .ok (.getfield 47, 3) := by decide +kernel
theorem dX7_thread_160 : decode cX7_thread 160 = .ok (.iload_n 1, 1) := by decide +kernel
theorem dX7_thread_161 : decode cX7_thread 161 = .ok (.iaload, 1) := by decide +kernel
theorem dX7_thread_162 : decode cX7_thread 162 = .ok (.ireturn, 1) := by decide +kernel
theorem dX7_thread_163 : decode cX7_thread 163 = .ok (.aload_n 0, 1) := by decide +kernel
theorem dX7_thread_164 : decode cX7_thread 164 = .ok (.getfield 50, 3) := by decide +kernel
theorem dX7_thread_167 : decode cX7_thread 167 = .ok (.iload_n 1, 1) := by decide +kernel
theorem dX7_thread_168 : decode cX7_thread 168 = .ok (.iaload, 1) := by decide +kernel
theorem dX7_thread_169 : decode cX7_thread 169 = .ok (.ireturn, 1) := by decide +kernel
theorem dX7_thread_170 : decode cX7_thread 170 = .ok (.aload_n 0, 1) := by decide +kernel
theorem dX7_thread_171 : decode cX7_thread 171 = .ok (.getfield 53, 3) := by decide +kernel
theorem dX7_thread_174 : decode cX7_thread 174 = .ok (.iload_n 1, 1) := by decide +kernel
theorem dX7_thread_175 : decode cX7_thread 175 = .ok (.iaload, 1) := by decide +kernel
theorem dX7_thread_176 : decode cX7_thread 176 = .ok (.ireturn, 1) := by decide +kernel
theorem dX7_thread_177 : decode cX7_thread 177 = .ok (.bipush (-2), 2) := by decide +kernel
theorem dX7_thread_179 : decode cX7_thread 179 = .ok (.ireturn, 1) := by decide +kernel
theorem dX7_queued_0 : decode cX7_queued 0 = .ok (.aload_n 0, 1) := by decide +kernel
theorem dX7_queued_1 : decode cX7_queued 1 = .ok (.iconst 0, 1) := by decide +kernel
theorem dX7_queued_2 : decode cX7_queued 2 = .ok (.putfield 77, 3) := by decide +kernel
theorem dX7_queued_5 : decode cX7_queued 5 = .ok (.aload_n 0, 1) := by decide +kernel
theorem dX7_queued_6 : decode cX7_queued 6 = .ok (.getfield 102, 3) := by decide +kernel
theorem dX7_queued_9 : decode cX7_queued 9 = .ok (.ifCond .eq 26, 3) := by decide +kernel
theorem dX7_queued_12 : decode cX7_queued 12 = .ok (.iload_n 1, 1) := by decide +kernel
theorem dX7_queued_13 : decode cX7_queued 13 = .ok (.iconst 0, 1) := by decide +kernel
theorem dX7_queued_14 : decode cX7_queued 14 = .ok (.aload_n 0, 1) := by decide +kernel
theorem dX7_queued_15 : decode cX7_queued 15 = .ok (.getfield 99, 3) := by decide +kernel
theorem dX7_queued_18 : decode cX7_queued 18 = .ok (.iconst 1, 1) := by decide +kernel
theorem dX7_queued_19 : decode cX7_queued 19 = .ok (.isub, 1) := by decide +kernel
theorem dX7_queued_20 : decode cX7_queued 20 = .ok (.invokestatic 84, 3) := by decide +kernel
theorem dX7_queued_23 : decode cX7_queued 23 = .ok (.ifCond .eq 12, 3) := by decide +kernel
theorem dX7_queued_26 : decode cX7_queued 26 = .ok (.aload_n 0, 1) := by decide +kernel
theorem dX7_queued_27 : decode cX7_queued 27 = .ok (.getfield 62, 3) := by decide +kernel
theorem dX7_queued_30 : decode cX7_queued 30 = .ok (.iload_n 1, 1) := by decide +kernel
theorem dX7_queued_31 : decode cX7_queued 31 = .ok (.iaload, 1) := by decide +kernel
theorem dX7_queued_32 : decode cX7_queued 32 = .ok (.goto 4, 3) := by decide +kernel
theorem dX7_queued_35 : decode cX7_queued 35 = .ok (.iconst (-1), 1) := by decide +kernel
theorem dX7_queued_36 : decode cX7_queued 36 = .ok (.ireturn, 1) := by decide +kernel
theorem dX7_box_0 : decode cX7_box 0 = .ok (.aload_n 0, 1) := by decide +kernel
theorem dX7_box_1 : decode cX7_box 1 = .ok (.iconst 0, 1) := by decide +kernel
theorem dX7_box_2 : decode cX7_box 2 = .ok (.putfield 77, 3) := by decide +kernel
theorem dX7_box_5 : decode cX7_box 5 = .ok (.aload_n 0, 1) := by decide +kernel
theorem dX7_box_6 : decode cX7_box 6 = .ok (.getfield 102, 3) := by decide +kernel
theorem dX7_box_9 : decode cX7_box 9 = .ok (.ifCond .eq 13, 3) := by decide +kernel
theorem dX7_box_12 : decode cX7_box 12 = .ok (.iload_n 1, 1) := by decide +kernel
theorem dX7_box_13 : decode cX7_box 13 = .ok (.iconst 0, 1) := by decide +kernel
theorem dX7_box_14 : decode cX7_box 14 = .ok (.bipush 7, 2) := by decide +kernel
theorem dX7_box_16 : decode cX7_box 16 = .ok (.invokestatic 84, 3) := by decide +kernel
theorem dX7_box_19 : decode cX7_box 19 = .ok (.ifCond .ne 5, 3) := by decide +kernel
theorem dX7_box_22 : decode cX7_box 22 = .ok (.iconst (-1), 1) := by decide +kernel
theorem dX7_box_23 : decode cX7_box 23 = .ok (.ireturn, 1) := by decide +kernel
theorem dX7_box_24 : decode cX7_box 24 = .ok (.iload_n 2, 1) := by decide +kernel
theorem dX7_box_25 : decode cX7_box 25 = .ok (.iconst 0, 1) := by decide +kernel
theorem dX7_box_26 : decode cX7_box 26 = .ok (.iconst 4, 1) := by decide +kernel
theorem dX7_box_27 : decode cX7_box 27 = .ok (.invokestatic 84, 3) := by decide +kernel
theorem dX7_box_30 : decode cX7_box 30 = .ok (.ifCond .ne 6, 3) := by decide +kernel
theorem dX7_box_33 : decode cX7_box 33 = .ok (.bipush (-2), 2) := by decide +kernel
theorem dX7_box_35 : decode cX7_box 35 = .ok (.ireturn, 1) := by decide +kernel
theorem dX7_box_36 : decode cX7_box 36 = .ok (.iload_n 2, 1) := by decide +kernel
theorem dX7_box_37 : decode cX7_box 37 = .ok (.ifCond .ne 24, 3) := by decide +kernel
theorem dX7_box_40 : decode cX7_box 40 = .ok (.aload_n 0, 1) := by decide +kernel
theorem dX7_box_41 : decode cX7_box 41 = .ok (.getfield 68, 3) := by decide +kernel
theorem dX7_box_44 : decode cX7_box 44 = .ok (.iload_n 1, 1) := by decide +kernel
theorem dX7_box_45 : decode cX7_box 45 = .ok (.baload, 1) := by decide +kernel
theorem dX7_box_46 : decode cX7_box 46 = .ok (.ifCond .eq 12, 3) := by decide +kernel
theorem dX7_box_49 : decode cX7_box 49 = .ok (.aload_n 0, 1) := by decide +kernel
theorem dX7_box_50 : decode cX7_box 50 = .ok (.getfield 65, 3) := by decide +kernel
theorem dX7_box_53 : decode cX7_box 53 = .ok (.iload_n 1, 1) := by decide +kernel
theorem dX7_box_54 : decode cX7_box 54 = .ok (.iaload, 1) := by decide +kernel
theorem dX7_box_55 : decode cX7_box 55 = .ok (.goto 5, 3) := by decide +kernel
theorem dX7_box_58 : decode cX7_box 58 = .ok (.bipush (-3), 2) := by decide +kernel
theorem dX7_box_60 : decode cX7_box 60 = .ok (.ireturn, 1) := by decide +kernel
theorem dX7_box_61 : decode cX7_box 61 = .ok (.iload_n 2, 1) := by decide +kernel
theorem dX7_box_62 : decode cX7_box 62 = .ok (.iconst 1, 1) := by decide +kernel
theorem dX7_box_63 : decode cX7_box 63 = .ok (.if_icmp .ne 18, 3) := by decide +kernel
theorem dX7_box_66 : decode cX7_box 66 = .ok (.aload_n 0, 1) := by decide +kernel
theorem dX7_box_67 : decode cX7_box 67 = .ok (.getfield 68, 3) := by decide +kernel
theorem dX7_box_70 : decode cX7_box 70 = .ok (.iload_n 1, 1) := by decide +kernel
theorem dX7_box_71 : decode cX7_box 71 = .ok (.baload, 1) := by decide +kernel
theorem dX7_box_72 : decode cX7_box 72 = .ok (.ifCond .eq 7, 3) := by decide +kernel
theorem dX7_box_75 : decode cX7_box 75 = .ok (.iconst 1, 1) := by decide +kernel
theorem dX7_box_76 : decode cX7_box 76 = .ok (.goto 4, 3) := by decide +kernel
theorem dX7_box_79 : decode cX7_box 79 = .ok (.iconst 0, 1) := by decide +kernel
theorem dX7_box_80 : decode cX7_box 80 = .ok (.ireturn, 1) := by decide +kernel
theorem dX7_box_81 : decode cX7_box 81 = .ok (.iconst 0, 1) := by decide +kernel
theorem dX7_box_82 : decode cX7_box 82 = .ok (.istore_n 3, 1) := by decide +kernel
theorem dX7_box_83 : decode cX7_box 83 = .ok (.iconst 0, 1) := by decide +kernel
theorem dX7_box_84 : decode cX7_box 84 = .ok (.istore 4, 2) := by decide +kernel
theorem dX7_box_86 : decode cX7_box 86 = .ok (.iload 4, 2) := by decide +kernel
theorem dX7_box_88 : decode cX7_box 88 = .ok (.aload_n 0, 1) := by decide +kernel
theorem dX7_box_89 : decode cX7_box 89 = .ok (.getfield 92, 3) := by decide +kernel
theorem dX7_box_92 : decode cX7_box 92 = .ok (.if_icmp .ge 41, 3) := by decide +kernel
theorem dX7_box_95 : decode cX7_box 95 = .ok (.iload_n 3, 1) := by decide +kernel
theorem dX7_box_96 : decode cX7_box 96 = .ok (.aload_n 0, 1) := by decide +kernel
theorem dX7_box_97 : decode cX7_box 97 = .ok (.getfield 19, 3) := by decide +kernel
theorem dX7_box_100 : decode cX7_box 100 = .ok (.iload 4, 2) := by decide +kernel
theorem dX7_box_102 : decode cX7_box 102 = .ok (.iaload, 1) := by decide +kernel
theorem dX7_box_103 : decode cX7_box 103 = .ok (.iload_n 2, 1) := by decide +kernel
theorem dX7_box_104 : decode cX7_box 104 = .ok (.iconst 1, 1) := by decide +kernel
theorem dX7_box_105 : decode cX7_box 105 = .ok (.isub, 1) := by decide +kernel
theorem dX7_box_106 : decode cX7_box 106 = .ok (.if_icmp .ne 18, 3) := by decide +kernel
theorem dX7_box_109 : decode cX7_box 109 = .ok (.aload_n 0, 1) := by decide +kernel
theorem dX7_box_110 : decode cX7_box 110 = .ok (.getfield 56, 3) := by decide +kernel
theorem dX7_box_113 : decode cX7_box 113 = .ok (.iload 4, 2) := by decide +kernel
theorem dX7_box_115 : decode cX7_box 115 = .ok (.iaload, 1) := by decide +kernel
theorem dX7_box_116 : decode cX7_box 116 = .ok (.iload_n 1, 1) := by decide +kernel
theorem dX7_box_117 : decode cX7_box 117 = .ok (.if_icmp .ne 7, 3) := by decide +kernel
theorem dX7_box_120 : decode cX7_box 120 = .ok (.iconst 1, 1) := by decide +kernel
theorem dX7_box_121 : decode cX7_box 121 = .ok (.goto 4, 3) := by decide +kernel
theorem dX7_box_124 : decode cX7_box 124 = .ok (.iconst 0, 1) := by decide +kernel
theorem dX7_box_125 : decode cX7_box 125 = .ok (.iadd, 1) := by decide +kernel
theorem dX7_box_126 : decode cX7_box 126 = .ok (.istore_n 3, 1) := by decide +kernel
theorem dX7_box_127 : decode cX7_box 127 = .ok (.iinc 4 1, 3) := by decide +kernel
theorem dX7_box_130 : decode cX7_box 130 = .ok (.goto (-44), 3) := by decide +kernel
theorem dX7_box_133 : decode cX7_box 133 = .ok (.iload_n 3, 1) := by decide +kernel
theorem dX7_box_134 : decode cX7_box 134 = .ok (.ireturn, 1) := by decide +kernel
theorem dX7_trace_0 : decode cX7_trace 0 = .ok (.aload_n 0, 1) := by decide +kernel
theorem dX7_trace_1 : decode cX7_trace 1 = .ok (.iconst 0, 1) := by decide +kernel
theorem dX7_trace_2 : decode cX7_trace 2 = .ok (.putfield 77, 3) := by decide +kernel
theorem dX7_trace_5 : decode cX7_trace 5 = .ok (.aload_n 0, 1) := by decide +kernel
theorem dX7_trace_6 : decode cX7_trace 6 = .ok (.getfield 102, 3) := by decide +kernel
theorem dX7_trace_9 : decode cX7_trace 9 = .ok (.ifCond .eq 17, 3) := by decide +kernel
theorem dX7_trace_12 : decode cX7_trace 12 = .ok (.iload_n 1, 1) := by decide +kernel
theorem dX7_trace_13 : decode cX7_trace 13 = .ok (.iconst (-1), 1) := by decide +kernel
theorem dX7_trace_14 : decode cX7_trace 14 = .ok (.aload_n 0, 1) := by decide +kernel
theorem dX7_trace_15 : decode cX7_trace 15 = .ok (.getfield 121, 3) := by decide +kernel
theorem dX7_trace_18 : decode cX7_trace 18 = .ok (.iconst 1, 1) := by decide +kernel
theorem dX7_trace_19 : decode cX7_trace 19 = .ok (.isub, 1) := by decide +kernel
theorem dX7_trace_20 : decode cX7_trace 20 = .ok (.invokestatic 84, 3) := by decide +kernel
theorem dX7_trace_23 : decode cX7_trace 23 = .ok (.ifCond .ne 5, 3) := by decide +kernel
theorem dX7_trace_26 : decode cX7_trace 26 = .ok (.iconst (-1), 1) := by decide +kernel
theorem dX7_trace_27 : decode cX7_trace 27 = .ok (.ireturn, 1) := by decide +kernel
theorem dX7_trace_28 : decode cX7_trace 28 = .ok (.iload_n 2, 1) := by decide +kernel
theorem dX7_trace_29 : decode cX7_trace 29 = .ok (.iconst 0, 1) := by decide +kernel
theorem dX7_trace_30 : decode cX7_trace 30 = .ok (.iconst 1, 1) := by decide +kernel
theorem dX7_trace_31 : decode cX7_trace 31 = .ok (.invokestatic 84, 3) := by decide +kernel
theorem dX7_trace_34 : decode cX7_trace 34 = .ok (.ifCond .ne 6, 3) := by decide +kernel
theorem dX7_trace_37 : decode cX7_trace 37 = .ok (.bipush (-2), 2) := by decide +kernel
theorem dX7_trace_39 : decode cX7_trace 39 = .ok (.ireturn, 1) := by decide +kernel
theorem dX7_trace_40 : decode cX7_trace 40 = .ok (.iload_n 1, 1) := by decide +kernel
theorem dX7_trace_41 : decode cX7_trace 41 = .ok (.ifCond .ge 10, 3) := by decide +kernel
theorem dX7_trace_44 : decode cX7_trace 44 = .ok (.aload_n 0, 1) := by decide +kernel
theorem dX7_trace_45 : decode cX7_trace 45 = .ok (.getfield 121, 3) := by decide +kernel
theorem dX7_trace_48 : decode cX7_trace 48 = .ok (.goto 22, 3) := by decide +kernel
theorem dX7_trace_51 : decode cX7_trace 51 = .ok (.iload_n 2, 1) := by decide +kernel
theorem dX7_trace_52 : decode cX7_trace 52 = .ok (.ifCond .ne 12, 3) := by decide +kernel
theorem dX7_trace_55 : decode cX7_trace 55 = .ok (.aload_n 0, 1) := by decide +kernel
theorem dX7_trace_56 : decode cX7_trace 56 = .ok (.getfield 71, 3) := by decide +kernel
theorem dX7_trace_59 : decode cX7_trace 59 = .ok (.iload_n 1, 1) := by decide +kernel
theorem dX7_trace_60 : decode cX7_trace 60 = .ok (.iaload, 1) := by decide +kernel
theorem dX7_trace_61 : decode cX7_trace 61 = .ok (.goto 9, 3) := by decide +kernel
theorem dX7_trace_64 : decode cX7_trace 64 = .ok (.aload_n 0, 1) := by decide +kernel
theorem dX7_trace_65 : decode cX7_trace 65 = .ok (.getfield 74, 3) := by decide +kernel
theorem dX7_trace_68 : decode cX7_trace 68 = .ok (.iload_n 1, 1) := by decide +kernel
theorem dX7_trace_69 : decode cX7_trace 69 = .ok (.iaload, 1) := by decide +kernel
theorem dX7_trace_70 : decode cX7_trace 70 = .ok (.ireturn, 1) := by decide +kernel
theorem dX7_share_0 : decode cX7_share 0 = .ok (.aload_n 0, 1) := by decide +kernel
theorem dX7_share_1 : decode cX7_share 1 = .ok (.iconst 0, 1) := by decide +kernel
theorem dX7_share_2 : decode cX7_share 2 = .ok (.putfield 77, 3) := by decide +kernel
theorem dX7_share_5 : decode cX7_share 5 = .ok (.aload_n 0, 1) := by decide +kernel
theorem dX7_share_6 : decode cX7_share 6 = .ok (.getfield 102, 3) := by decide +kernel
theorem dX7_share_9 : decode cX7_share 9 = .ok (.ifCond .eq 17, 3) := by decide +kernel
theorem dX7_share_12 : decode cX7_share 12 = .ok (.iload_n 1, 1) := by decide +kernel
theorem dX7_share_13 : decode cX7_share 13 = .ok (.iconst 0, 1) := by decide +kernel
theorem dX7_share_14 : decode cX7_share 14 = .ok (.aload_n 0, 1) := by decide +kernel
theorem dX7_share_15 : decode cX7_share 15 = .ok (.getfield 92, 3) := by decide +kernel
theorem dX7_share_18 : decode cX7_share 18 = .ok (.iconst 1, 1) := by decide +kernel
theorem dX7_share_19 : decode cX7_share 19 = .ok (.isub, 1) := by decide +kernel
theorem dX7_share_20 : decode cX7_share 20 = .ok (.invokestatic 84, 3) := by decide +kernel
theorem dX7_share_23 : decode cX7_share 23 = .ok (.ifCond .ne 5, 3) := by decide +kernel
theorem dX7_share_26 : decode cX7_share 26 = .ok (.iconst (-1), 1) := by decide +kernel
theorem dX7_share_27 : decode cX7_share 27 = .ok (.ireturn, 1) := by decide +kernel
theorem dX7_share_28 : decode cX7_share 28 = .ok (.aload_n 0, 1) := by decide +kernel
theorem dX7_share_29 : decode cX7_share 29 = .ok (.getfield 115, 3) := by decide +kernel
theorem dX7_share_32 : decode cX7_share 32 = .ok (.ifCond .ne 10, 3) := by decide +kernel
theorem dX7_share_35 : decode cX7_share 35 = .ok (.aload_n 0, 1) := by decide +kernel
theorem dX7_share_36 : decode cX7_share 36 = .ok (.iconst 1, 1) := by decide +kernel
theorem dX7_share_37 : decode cX7_share 37 = .ok (.putfield 77, 3) := by decide +kernel
theorem dX7_share_40 : decode cX7_share 40 = .ok (.iconst 0, 1) := by decide +kernel
theorem dX7_share_41 : decode cX7_share 41 = .ok (.ireturn, 1) := by decide +kernel
theorem dX7_share_42 : decode cX7_share 42 = .ok (.sipush 1000, 3) := by decide +kernel
theorem dX7_share_45 : decode cX7_share 45 = .ok (.aload_n 0, 1) := by decide +kernel
theorem dX7_share_46 : decode cX7_share 46 = .ok (.getfield 50, 3) := by decide +kernel
theorem dX7_share_49 : decode cX7_share 49 = .ok (.iload_n 1, 1) := by decide +kernel
theorem dX7_share_50 : decode cX7_share 50 = .ok (.iaload, 1) := by decide +kernel
theorem dX7_share_51 : decode cX7_share 51 = .ok (.imul, 1) := by decide +kernel
theorem dX7_share_52 : decode cX7_share 52 = .ok (.aload_n 0, 1) := by decide +kernel
theorem dX7_share_53 : decode cX7_share 53 = .ok (.getfield 115, 3) := by decide +kernel
theorem dX7_share_56 : decode cX7_share 56 = .ok (.idiv, 1) := by decide +kernel
theorem dX7_share_57 : decode cX7_share 57 = .ok (.ireturn, 1) := by decide +kernel
