theorem dX6_init_0 : decode cX6_init 0 = .ok (.aload_n 0, 1) := by decide +kernel
theorem dX6_init_1 : decode cX6_init 1 = .ok (.invokespecial 1, 3) := by decide +kernel
theorem dX6_init_4 : decode cX6_init 4 = .ok (.aload_n 0, 1) := by decide +kernel
theorem dX6_init_5 : decode cX6_init 5 = .ok (.bipush 6, 2) := by decide +kernel
theorem dX6_init_7 : decode cX6_init 7 = .ok (.newarray .int, 2) := by decide +kernel
theorem dX6_init_9 : decode cX6_init 9 = .ok (.putfield 7, 3) := by decide +kernel
theorem dX6_init_12 : decode cX6_init 12 = .ok (.aload_n 0, 1) := by decide +kernel
theorem dX6_init_13 : decode cX6_init 13 = .ok (.bipush 6, 2) := by decide +kernel
theorem dX6_init_15 : decode cX6_init 15 = .ok (.newarray .int, 2) := by decide +kernel
theorem dX6_init_17 : decode cX6_init 17 = .ok (.putfield 13, 3) := by decide +kernel
theorem dX6_init_20 : decode cX6_init 20 = .ok (.aload_n 0, 1) := by decide +kernel
theorem dX6_init_21 : decode cX6_init 21 = .ok (.bipush 6, 2) := by decide +kernel
theorem dX6_init_23 : decode cX6_init 23 = .ok (.newarray .int, 2) := by decide +kernel
theorem dX6_init_25 : decode cX6_init 25 = .ok (.putfield 16, 3) := by decide +kernel
theorem dX6_init_28 : decode cX6_init 28 = .ok (.aload_n 0, 1) := by decide +kernel
theorem dX6_init_29 : decode cX6_init 29 = .ok (.iconst 5, 1) := by decide +kernel
theorem dX6_init_30 : decode cX6_init 30 = .ok (.newarray .int, 2) := by decide +kernel
theorem dX6_init_32 : decode cX6_init 32 = .ok (.putfield 19, 3) := by decide +kernel
theorem dX6_init_35 : decode cX6_init 35 = .ok (.aload_n 0, 1) := by decide +kernel
theorem dX6_init_36 : decode cX6_init 36 = .ok (.bipush 20, 2) := by decide +kernel
theorem dX6_init_38 : decode cX6_init 38 = .ok (.newarray .int, 2) := by decide +kernel
theorem dX6_init_40 : decode cX6_init 40 = .ok (.putfield 22, 3) := by decide +kernel
theorem dX6_init_43 : decode cX6_init 43 = .ok (.aload_n 0, 1) := by decide +kernel
theorem dX6_init_44 : decode cX6_init 44 = .ok (.bipush 20, 2) := by decide +kernel
theorem dX6_init_46 : decode cX6_init 46 = .ok (.newarray .int, 2) := by decide +kernel
theorem dX6_init_48 : decode cX6_init 48 = .ok (.putfield 25, 3) := by decide +kernel
theorem dX6_init_51 : decode cX6_init 51 = .ok (.aload_n 0, 1) := by decide +kernel
theorem dX6_init_52 : decode cX6_init 52 = .ok (.bipush 20, 2) := by decide +kernel
theorem dX6_init_54 : decode cX6_init 54 = .ok (.newarray .int, 2) := by decide +kernel
theorem dX6_init_56 : decode cX6_init 56 = .ok (.putfield 28, 3) := by decide +kernel
theorem dX6_init_59 : decode cX6_init 59 = .ok (.aload_n 0, 1) := by decide +kernel
theorem dX6_init_60 : decode cX6_init 60 = .ok (.bipush 20, 2) := by decide +kernel
theorem dX6_init_62 : decode cX6_init 62 = .ok (.newarray .int, 2) := by decide +kernel
theorem dX6_init_64 : decode cX6_init 64 = .ok (.putfield 31, 3) := by decide +kernel
theorem dX6_init_67 : decode cX6_init 67 = .ok (.aload_n 0, 1) := by decide +kernel
theorem dX6_init_68 : decode cX6_init 68 = .ok (.bipush 20, 2) := by decide +kernel
theorem dX6_init_70 : decode cX6_init 70 = .ok (.newarray .int, 2) := by decide +kernel
theorem dX6_init_72 : decode cX6_init 72 = .ok (.putfield 34, 3) := by decide +kernel
theorem dX6_init_75 : decode cX6_init 75 = .ok (.aload_n 0, 1) := by decide +kernel
theorem dX6_init_76 : decode cX6_init 76 = .ok (.bipush 20, 2) := by decide +kernel
theorem dX6_init_78 : decode cX6_init 78 = .ok (.newarray .int, 2) := by decide +kernel
theorem dX6_init_80 : decode cX6_init 80 = .ok (.putfield 37, 3) := by decide +kernel
theorem dX6_init_83 : decode cX6_init 83 = .ok (.aload_n 0, 1) := by decide +kernel
theorem dX6_init_84 : decode cX6_init 84 = .ok (.bipush 8, 2) := by decide +kernel
theorem dX6_init_86 : decode cX6_init 86 = .ok (.newarray .int, 2) := by decide +kernel
theorem dX6_init_88 : decode cX6_init 88 = .ok (.putfield 40, 3) := by decide +kernel
theorem dX6_init_91 : decode cX6_init 91 = .ok (.aload_n 0, 1) := by decide +kernel
theorem dX6_init_92 : decode cX6_init 92 = .ok (.bipush 8, 2) := by decide +kernel
theorem dX6_init_94 : decode cX6_init 94 = .ok (.newarray .int, 2) := by decide +kernel
theorem dX6_init_96 : decode cX6_init 96 = .ok (.putfield 43, 3) := by decide +kernel
theorem dX6_init_99 : decode cX6_init 99 = .ok (.aload_n 0, 1) := by decide +kernel
theorem dX6_init_100 : decode cX6_init 100 = .ok (.bipush 8, 2) := by decide +kernel
theorem dX6_init_102 : decode cX6_init 102 = .ok (.newarray .int, 2) := by decide +kernel
theorem dX6_init_104 : decode cX6_init 104 = .ok (.putfield 46, 3) := by decide +kernel
theorem dX6_init_107 : decode cX6_init 107 = .ok (.aload_n 0, 1) := by decide +kernel
theorem dX6_init_108 : decode cX6_init 108 = .ok (.bipush 8, 2) := by decide +kernel
theorem dX6_init_110 : decode cX6_init 110 = .ok (.newarray .int, 2) := by decide +kernel
theorem dX6_init_112 : decode cX6_init 112 = .ok (.putfield 49, 3) := by decide +kernel
theorem dX6_init_115 : decode cX6_init 115 = .ok (.aload_n 0, 1) := by decide +kernel
theorem dX6_init_116 : decode cX6_init 116 = .ok (.bipush 24, 2) := by decide +kernel
theorem dX6_init_118 : decode cX6_init 118 = .ok (.newarray .int, 2) := by decide +kernel
theorem dX6_init_120 : decode cX6_init 120 = .ok (.putfield 52, 3) := by decide +kernel
theorem dX6_init_123 : decode cX6_init 123 = .ok (.aload_n 0, 1) := by decide +kernel
theorem dX6_init_124 : decode cX6_init 124 = .ok (.sipush 144, 3) := by decide +kernel
theorem dX6_init_127 : decode cX6_init 127 = .ok (.newarray .int, 2) := by decide +kernel
theorem dX6_init_129 : decode cX6_init 129 = .ok (.putfield 55, 3) := by decide +kernel
theorem dX6_init_132 : decode cX6_init 132 = .ok (.aload_n 0, 1) := by decide +kernel
theorem dX6_init_133 : decode cX6_init 133 = .ok (.bipush 6, 2) := by decide +kernel
theorem dX6_init_135 : decode cX6_init 135 = .ok (.newarray .int, 2) := by decide +kernel
theorem dX6_init_137 : decode cX6_init 137 = .ok (.putfield 58, 3) := by decide +kernel
theorem dX6_init_140 : decode cX6_init 140 = .ok (.aload_n 0, 1) := by decide +kernel
theorem dX6_init_141 : decode cX6_init 141 = .ok (.getfield 19, 3) := by decide +kernel
theorem dX6_init_144 : decode cX6_init 144 = .ok (.iconst 0, 1) := by decide +kernel
theorem dX6_init_145 : decode cX6_init 145 = .ok (.iconst 1, 1) := by decide +kernel
theorem dX6_init_146 : decode cX6_init 146 = .ok (.iastore, 1) := by decide +kernel
theorem dX6_init_147 : decode cX6_init 147 = .ok (.aload_n 0, 1) := by decide +kernel
theorem dX6_init_148 : decode cX6_init 148 = .ok (.getfield 19, 3) := by decide +kernel
theorem dX6_init_151 : decode cX6_init 151 = .ok (.iconst 1, 1) := by decide +kernel
theorem dX6_init_152 : decode cX6_init 152 = .ok (.iconst 2, 1) := by decide +kernel
theorem dX6_init_153 : decode cX6_init 153 = .ok (.iastore, 1) := by decide +kernel
theorem dX6_init_154 : decode cX6_init 154 = .ok (.aload_n 0, 1) := by decide +kernel
theorem dX6_init_155 : decode cX6_init 155 = .ok (.getfield 19, 3) := by decide +kernel
theorem dX6_init_158 : decode cX6_init 158 = .ok (.iconst 2, 1) := by decide +kernel
theorem dX6_init_159 : decode cX6_init 159 = .ok (.bipush 10, 2) := by decide +kernel
theorem dX6_init_161 : decode cX6_init 161 = .ok (.iastore, 1) := by decide +kernel
theorem dX6_init_162 : decode cX6_init 162 = .ok (.aload_n 0, 1) := by decide +kernel
theorem dX6_init_163 : decode cX6_init 163 = .ok (.getfield 19, 3) := by decide +kernel
theorem dX6_init_166 : decode cX6_init 166 = .ok (.iconst 3, 1) := by decide +kernel
theorem dX6_init_167 : decode cX6_init 167 = .ok (.iconst 2, 1) := by decide +kernel
theorem dX6_init_168 : decode cX6_init 168 = .ok (.iastore, 1) := by decide +kernel
theorem dX6_init_169 : decode cX6_init 169 = .ok (.aload_n 0, 1) := by decide +kernel
theorem dX6_init_170 : decode cX6_init 170 = .ok (.getfield 19, 3) := by decide +kernel
theorem dX6_init_173 : decode cX6_init 173 = .ok (.iconst 4, 1) := by decide +kernel
theorem dX6_init_174 : decode cX6_init 174 = .ok (.iconst 4, 1) := by decide +kernel
theorem dX6_init_175 : decode cX6_init 175 = .ok (.iastore, 1) := by decide +kernel
theorem dX6_init_176 : decode cX6_init 176 = .ok (.return_, 1) := by decide +kernel
theorem dX6_in_0 : decode cX6_in 0 = .ok (.iload_n 0, 1) := by decide +kernel
theorem dX6_in_1 : decode cX6_in 1 = .ok (.iload_n 1, 1) := by decide +kernel
theorem dX6_in_2 : decode cX6_in 2 = .ok (.if_icmp .lt 12, 3) := by decide +kernel
theorem dX6_in_5 : decode cX6_in 5 = .ok (.iload_n 0, 1) := by decide +kernel
theorem dX6_in_6 : decode cX6_in 6 = .ok (.iload_n 2, 1) := by decide +kernel
theorem dX6_in_7 : decode cX6_in 7 = .ok (.if_icmp .gt 7, 3) := by decide +kernel
theorem dX6_in_10 : decode cX6_in 10 = .ok (.iconst 1, 1) := by decide +kernel
theorem dX6_in_11 : decode cX6_in 11 = .ok (.goto 4, 3) := by decide +kernel
theorem dX6_in_14 : decode cX6_in 14 = .ok (.iconst 0, 1) := by decide +kernel
theorem dX6_in_15 : decode cX6_in 15 = .ok (.ireturn, 1) := by decide +kernel
theorem dX6_isYears_0 : decode cX6_isYears 0 = .ok (.iload_n 0, 1) := by decide +kernel
theorem dX6_isYears_1 : decode cX6_isYears 1 = .ok (.sipush 1500, 3) := by decide +kernel
theorem dX6_isYears_4 : decode cX6_isYears 4 = .ok (.sipush 1900, 3) := by decide +kernel
theorem dX6_isYears_7 : decode cX6_isYears 7 = .ok (.invokestatic 65, 3) := by decide +kernel
theorem dX6_isYears_10 : decode cX6_isYears 10 = .ok (.ifCond .eq 18, 3) := by decide +kernel
theorem dX6_isYears_13 : decode cX6_isYears 13 = .ok (.iload_n 1, 1) := by decide +kernel
theorem dX6_isYears_14 : decode cX6_isYears 14 = .ok (.iload_n 0, 1) := by decide +kernel
theorem dX6_isYears_15 : decode cX6_isYears 15 = .ok (.sipush 1900, 3) := by decide +kernel
theorem dX6_isYears_18 : decode cX6_isYears 18 = .ok (.invokestatic 65, 3) := by decide +kernel
theorem dX6_isYears_21 : decode cX6_isYears 21 = .ok (.ifCond .eq 7, 3) := by decide +kernel
theorem dX6_isYears_24 : decode cX6_isYears 24 = .ok (.iconst 1, 1) := by decide +kernel
theorem dX6_isYears_25 : decode cX6_isYears 25 = .ok (.goto 4, 3) := by decide +kernel
theorem dX6_isYears_28 : decode cX6_isYears 28 = .ok (.iconst 0, 1) := by decide +kernel
theorem dX6_isYears_29 : decode cX6_isYears 29 = .ok (.ireturn, 1) := by decide +kernel
theorem dX6_bits_0 : decode cX6_bits 0 = .ok (.iconst 0, 1) := by decide +kernel
theorem dX6_bits_1 : decode cX6_bits 1 = .ok (.istore_n 1, 1) := by decide +kernel
theorem dX6_bits_2 : decode cX6_bits 2 = .ok (.iconst 0, 1) := by decide +kernel
theorem dX6_bits_3 : decode cX6_bits 3 = .ok (.istore_n 2, 1) := by decide +kernel
theorem dX6_bits_4 : decode cX6_bits 4 = .ok (.iload_n 2, 1) := by decide +kernel
theorem dX6_bits_5 : decode cX6_bits 5 = .ok (.bipush 12, 2) := by decide +kernel
theorem dX6_bits_7 : decode cX6_bits 7 = .ok (.if_icmp .ge 17, 3) := by decide +kernel
theorem dX6_bits_10 : decode cX6_bits 10 = .ok (.iload_n 1, 1) := by decide +kernel
theorem dX6_bits_11 : decode cX6_bits 11 = .ok (.iload_n 0, 1) := by decide +kernel
theorem dX6_bits_12 : decode cX6_bits 12 = .ok (.iload_n 2, 1) := by decide +kernel
theorem dX6_bits_13 : decode cX6_bits 13 = .ok (.ishr, 1) := by decide +kernel
theorem dX6_bits_14 : decode cX6_bits 14 = .ok (.iconst 1, 1) := by decide +kernel
theorem dX6_bits_15 : decode cX6_bits 15 = .ok (.iand, 1) := by decide +kernel
theorem dX6_bits_16 : decode cX6_bits 16 = .ok (.iadd, 1) := by decide +kernel
theorem dX6_bits_17 : decode cX6_bits 17 = .ok (.istore_n 1, 1) := by decide +kernel
theorem dX6_bits_18 : decode cX6_bits 18 = .ok (.iinc 2 1, 3) := by decide +kernel
theorem dX6_bits_21 : decode cX6_bits 21 = .ok (.goto (-17), 3) := by decide +kernel
theorem dX6_bits_24 : decode cX6_bits 24 = .ok (.iload_n 1, 1) := by decide +kernel
theorem dX6_bits_25 : decode cX6_bits 25 = .ok (.ireturn, 1) := by decide +kernel
theorem dX6_state_0 : decode cX6_state 0 = .ok (.aload_n 0, 1) := by decide +kernel
theorem dX6_state_1 : decode cX6_state 1 = .ok (.iconst 0, 1) := by decide +kernel
theorem dX6_state_2 : decode cX6_state 2 = .ok (.putfield 61, 3) := by decide +kernel
theorem dX6_state_5 : decode cX6_state 5 = .ok (.iload_n 1, 1) := by decide +kernel
theorem dX6_state_6 : decode cX6_state 6 = .ok (.iconst 0, 1) := by decide +kernel
theorem dX6_state_7 : decode cX6_state 7 = .ok (.sipush 4095, 3) := by decide +kernel
theorem dX6_state_10 : decode cX6_state 10 = .ok (.invokestatic 65, 3) := by decide +kernel
theorem dX6_state_13 : decode cX6_state 13 = .ok (.ifCond .eq 11, 3) := by decide +kernel
theorem dX6_state_16 : decode cX6_state 16 = .ok (.iload_n 2, 1) := by decide +kernel
theorem dX6_state_17 : decode cX6_state 17 = .ok (.iload_n 3, 1) := by decide +kernel
theorem dX6_state_18 : decode cX6_state 18 = .ok (.invokestatic 69, 3) := by decide +kernel
theorem dX6_state_21 : decode cX6_state 21 = .ok (.ifCond .ne 5, 3) := by decide +kernel
theorem dX6_state_24 : decode cX6_state 24 = .ok (.iconst (-1), 1) := by decide +kernel
theorem dX6_state_25 : decode cX6_state 25 = .ok (.ireturn, 1) := by decide +kernel
theorem dX6_state_26 : decode cX6_state 26 = .ok (.aload_n 0, 1) := by decide +kernel
theorem dX6_state_27 : decode cX6_state 27 = .ok (.getfield 73, 3) := by decide +kernel
theorem dX6_state_30 : decode cX6_state 30 = .ok (.bipush 6, 2) := by decide +kernel
theorem dX6_state_32 : decode cX6_state 32 = .ok (.if_icmp .ne 6, 3) := by decide +kernel
theorem dX6_state_35 : decode cX6_state 35 = .ok (.bipush (-3), 2) := by decide +kernel
theorem dX6_state_37 : decode cX6_state 37 = .ok (.ireturn, 1) := by decide +kernel
theorem dX6_state_38 : decode cX6_state 38 = .ok (.aload_n 0, 1) := by decide +kernel
theorem dX6_state_39 : decode cX6_state 39 = .ok (.getfield 7, 3) := by decide +kernel
theorem dX6_state_42 : decode cX6_state 42 = .ok (.aload_n 0, 1) := by decide +kernel
theorem dX6_state_43 : decode cX6_state 43 = .ok (.getfield 73, 3) := by decide +kernel
theorem dX6_state_46 : decode cX6_state 46 = .ok (.iload_n 1, 1) := by decide +kernel
theorem dX6_state_47 : decode cX6_state 47 = .ok (.iastore, 1) := by decide +kernel
theorem dX6_state_48 : decode cX6_state 48 = .ok (.aload_n 0, 1) := by decide +kernel
theorem dX6_state_49 : decode cX6_state 49 = .ok (.getfield 13, 3) := by decide +kernel
theorem dX6_state_52 : decode cX6_state 52 = .ok (.aload_n 0, 1) := by decide +kernel
theorem dX6_state_53 : decode cX6_state 53 = .ok (.getfield 73, 3) := by decide +kernel
theorem dX6_state_56 : decode cX6_state 56 = .ok (.iload_n 2, 1) := by decide +kernel
theorem dX6_state_57 : decode cX6_state 57 = .ok (.iastore, 1) := by decide +kernel
theorem dX6_state_58 : decode cX6_state 58 = .ok (.aload_n 0, 1) := by decide +kernel
theorem dX6_state_59 : decode cX6_state 59 = .ok (.getfield 16, 3) := by decide +kernel
theorem dX6_state_62 : decode cX6_state 62 = .ok (.aload_n 0, 1) := by decide +kernel
theorem dX6_state_63 : decode cX6_state 63 = .ok (.getfield 73, 3) := by decide +kernel
theorem dX6_state_66 : decode cX6_state 66 = .ok (.iload_n 3, 1) := by decide +kernel
theorem dX6_state_67 : decode cX6_state 67 = .ok (.iastore, 1) := by decide +kernel
theorem dX6_state_68 : decode cX6_state 68 = .ok (.aload_n 0, 1) := by decide +kernel
theorem dX6_state_69 : decode cX6_state 69 = .ok (.dup, 1) := by decide +kernel
theorem dX6_state_70 : decode cX6_state 70 = .ok (.getfield 73, 3) := by decide +kernel
theorem dX6_state_73 : decode cX6_state 73 = .ok (.iconst 1, 1) := by decide +kernel
theorem dX6_state_74 : decode cX6_state 74 = .ok (.iadd, 1) := by decide +kernel
theorem dX6_state_75 : decode cX6_state 75 = .ok (.putfield 73, 3) := by decide +kernel
theorem dX6_state_78 : decode cX6_state 78 = .ok (.aload_n 0, 1) := by decide +kernel
theorem dX6_state_79 : decode cX6_state 79 = .ok (.getfield 73, 3) := by decide +kernel
theorem dX6_state_82 : decode cX6_state 82 = .ok (.iconst 1, 1) := by decide +kernel
theorem dX6_state_83 : decode cX6_state 83 = .ok (.isub, 1) := by decide +kernel
theorem dX6_state_84 : decode cX6_state 84 = .ok (.ireturn, 1) := by decide +kernel
theorem dX6_about_0 : decode cX6_about 0 = .ok (.aload_n 0, 1) := by decide +kernel
theorem dX6_about_1 : decode cX6_about 1 = .ok (.iconst 0, 1) := by decide +kernel
theorem dX6_about_2 : decode cX6_about 2 = .ok (.putfield 61, 3) := by decide +kernel
theorem dX6_about_5 : decode cX6_about 5 = .ok (.iload_n 1, 1) := by decide +kernel
theorem dX6_about_6 : decode cX6_about 6 = .ok (.iconst 0, 1) := by decide +kernel
theorem dX6_about_7 : decode cX6_about 7 = .ok (.aload_n 0, 1) := by decide +kernel
theorem dX6_about_8 : decode cX6_about 8 = .ok (.getfield 73, 3) := by decide +kernel
theorem dX6_about_11 : decode cX6_about 11 = .ok (.iconst 1, 1) := by decide +kernel
theorem dX6_about_12 : decode cX6_about 12 = .ok (.isub, 1) := by decide +kernel
theorem dX6_about_13 : decode cX6_about 13 = .ok (.invokestatic 65, 3) := by decide +kernel
theorem dX6_about_16 : decode cX6_about 16 = .ok (.ifCond .eq 12, 3) := by decide +kernel
theorem dX6_about_19 : decode cX6_about 19 = .ok (.iload_n 2, 1) := by decide +kernel
theorem dX6_about_20 : decode cX6_about 20 = .ok (.iconst 0, 1) := by decide +kernel
theorem dX6_about_21 : decode cX6_about 21 = .ok (.iconst 2, 1) := by decide +kernel
theorem dX6_about_22 : decode cX6_about 22 = .ok (.invokestatic 65, 3) := by decide +kernel
theorem dX6_about_25 : decode cX6_about 25 = .ok (.ifCond .ne 5, 3) := by decide +kernel
theorem dX6_about_28 : decode cX6_about 28 = .ok (.iconst (-1), 1) := by decide +kernel
theorem dX6_about_29 : decode cX6_about 29 = .ok (.ireturn, 1) := by decide +kernel
theorem dX6_about_30 : decode cX6_about 30 = .ok (.iload_n 2, 1) := by decide +kernel
theorem dX6_about_31 : decode cX6_about 31 = .ok (.ifCond .ne 12, 3) := by decide +kernel
theorem dX6_about_34 : decode cX6_about 34 = .ok (.aload_n 0, 1) := by decide +kernel
theorem dX6_about_35 : decode cX6_about 35 = .ok (.getfield 7, 3) := by decide +kernel
theorem dX6_about_38 : decode cX6_about 38 = .ok (.iload_n 1, 1) := by decide +kernel
theorem dX6_about_39 : decode cX6_about 39 = .ok (.iaload, 1) := by decide +kernel
theorem dX6_about_40 : decode cX6_about 40 = .ok (.goto 23, 3) := by decide +kernel
theorem dX6_about_43 : decode cX6_about 43 = .ok (.iload_n 2, 1) := by decide +kernel
theorem dX6_about_44 : decode cX6_about 44 = .ok (.iconst 1, 1) := by decide +kernel
theorem dX6_about_45 : decode cX6_about 45 = .ok (.if_icmp .ne 12, 3) := by decide +kernel
theorem dX6_about_48 : decode cX6_about 48 = .ok (.aload_n 0, 1) := by decide +kernel
theorem dX6_about_49 : decode cX6_about 49 = .ok (.getfield 13, 3) := by decide +kernel
theorem dX6_about_52 : decode cX6_about 52 = .ok (.iload_n 1, 1) := by decide +kernel
theorem dX6_about_53 : decode cX6_about 53 = .ok (.iaload, 1) := by decide +kernel
theorem dX6_about_54 : decode cX6_about 54 = .ok (.goto 9, 3) := by decide +kernel
theorem dX6_about_57 : decode cX6_about 57 = .ok (.aload_n 0, 1) := by decide +kernel
theorem dX6_about_58 : decode cX6_about 58 = .ok (.getfield 16, 3) := by decide +kernel
theorem dX6_about_61 : decode cX6_about 61 = .ok (.iload_n 1, 1) := by decide +kernel
theorem dX6_about_62 : decode cX6_about 62 = .ok (.iaload, 1) := by decide +kernel
theorem dX6_about_63 : decode cX6_about 63 = .ok (.ireturn, 1) := by decide +kernel
theorem dX6_set_0 : decode cX6_set 0 = .ok (.aload_n 0, 1) := by decide +kernel
theorem dX6_set_1 : decode cX6_set 1 = .ok (.iconst 0, 1) := by decide +kernel
theorem dX6_set_2 : decode cX6_set 2 = .ok (.putfield 61, 3) := by decide +kernel
theorem dX6_set_5 : decode cX6_set 5 = .ok (.iload_n 1, 1) := by decide +kernel
theorem dX6_set_6 : decode cX6_set 6 = .ok (.iconst 0, 1) := by decide +kernel
theorem dX6_set_7 : decode cX6_set 7 = .ok (.iconst 4, 1) := by decide +kernel
theorem dX6_set_8 : decode cX6_set 8 = .ok (.invokestatic 65, 3) := by decide +kernel
theorem dX6_set_11 : decode cX6_set 11 = .ok (.ifCond .eq 33, 3) := by decide +kernel
theorem dX6_set_14 : decode cX6_set 14 = .ok (.iload_n 2, 1) := by decide +kernel
theorem dX6_set_15 : decode cX6_set 15 = .ok (.iconst 0, 1) := by decide +kernel
theorem dX6_set_16 : decode cX6_set 16 = .ok (.iload_n 1, 1) := by decide +kernel
theorem dX6_set_17 : decode cX6_set 17 = .ok (.iconst 2, 1) := by decide +kernel
theorem dX6_set_18 : decode cX6_set 18 = .ok (.if_icmp .ne 8, 3) := by decide +kernel
theorem dX6_set_21 : decode cX6_set 21 = .ok (.bipush 50, 2) := by decide +kernel
theorem dX6_set_23 : decode cX6_set 23 = .ok (.goto 15, 3) := by decide +kernel
theorem dX6_set_26 : decode cX6_set 26 = .ok (.iload_n 1, 1) := by decide +kernel
theorem dX6_set_27 : decode cX6_set 27 = .ok (.iconst 4, 1) := by decide +kernel
theorem dX6_set_28 : decode cX6_set 28 = .ok (.if_icmp .ne 8, 3) := by decide +kernel
theorem dX6_set_31 : decode cX6_set 31 = .ok (.bipush 20, 2) := by decide +kernel
theorem dX6_set_33 : decode cX6_set 33 = .ok (.goto 5, 3) := by decide +kernel
theorem dX6_set_36 : decode cX6_set 36 = .ok (.bipush 9, 2) := by decide +kernel
theorem dX6_set_38 : decode cX6_set 38 = .ok (.invokestatic 65, 3) := by decide +kernel
theorem dX6_set_41 : decode cX6_set 41 = .ok (.ifCond .ne 5, 3) := by decide +kernel
theorem dX6_set_44 : decode cX6_set 44 = .ok (.iconst (-1), 1) := by decide +kernel
theorem dX6_set_45 : decode cX6_set 45 = .ok (.ireturn, 1) := by decide +kernel
theorem dX6_set_46 : decode cX6_set 46 = .ok (.aload_n 0, 1) := by decide +kernel
theorem dX6_set_47 : decode cX6_set 47 = .ok (.getfield 19, 3) := by decide +kernel
theorem dX6_set_50 : decode cX6_set 50 = .ok (.iload_n 1, 1) := by decide +kernel
theorem dX6_set_51 : decode cX6_set 51 = .ok (.iaload, 1) := by decide +kernel
theorem dX6_set_52 : decode cX6_set 52 = .ok (.istore_n 3, 1) := by decide +kernel
theorem dX6_set_53 : decode cX6_set 53 = .ok (.aload_n 0, 1) := by decide +kernel
theorem dX6_set_54 : decode cX6_set 54 = .ok (.getfield 19, 3) := by decide +kernel
theorem dX6_set_57 : decode cX6_set 57 = .ok (.iload_n 1, 1) := by decide +kernel
theorem dX6_set_58 : decode cX6_set 58 = .ok (.iload_n 2, 1) := by decide +kernel
theorem dX6_set_59 : decode cX6_set 59 = .ok (.iastore, 1) := by decide +kernel
theorem dX6_set_60 : decode cX6_set 60 = .ok (.iload_n 3, 1) := by decide +kernel
theorem dX6_set_61 : decode cX6_set 61 = .ok (.ireturn, 1) := by decide +kernel
theorem dX6_isOrder_0 : decode cX6_isOrder 0 = .ok (.iload_n 1, 1) := by decide +kernel
theorem dX6_isOrder_1 : decode cX6_isOrder 1 = .ok (.istore_n 2, 1) := by decide +kernel
theorem dX6_isOrder_2 : decode cX6_isOrder 2 = .ok (.iconst 0, 1) := by decide +kernel
theorem dX6_isOrder_3 : decode cX6_isOrder 3 = .ok (.istore_n 3, 1) := by decide +kernel
theorem dX6_isOrder_4 : decode cX6_isOrder 4 = .ok (.aload_n 0, 1) := by decide +kernel
theorem dX6_isOrder_5 : decode cX6_isOrder 5 = .ok (.getfield 73, 3) := by decide +kernel
theorem dX6_isOrder_8 : decode cX6_isOrder 8 = .ok (.iconst 1, 1) := by decide +kernel
theorem dX6_isOrder_9 : decode cX6_isOrder 9 = .ok (.isub, 1) := by decide +kernel
theorem dX6_isOrder_10 : decode cX6_isOrder 10 = .ok (.istore 4, 2) := by decide +kernel
theorem dX6_isOrder_12 : decode cX6_isOrder 12 = .ok (.iload 4, 2) := by decide +kernel
theorem dX6_isOrder_14 : decode cX6_isOrder 14 = .ok (.ifCond .lt 45, 3) := by decide +kernel
theorem dX6_isOrder_17 : decode cX6_isOrder 17 = .ok (.aload_n 0, 1) := by decide +kernel
theorem dX6_isOrder_18 : decode cX6_isOrder 18 = .ok (.getfield 58, 3) := by decide +kernel
theorem dX6_isOrder_21 : decode cX6_isOrder 21 = .ok (.iload 4, 2) := by decide +kernel
theorem dX6_isOrder_23 : decode cX6_isOrder 23 = .ok (.iload_n 2, 1) := by decide +kernel
theorem dX6_isOrder_24 : decode cX6_isOrder 24 = .ok (.bipush 6, 2) := by decide +kernel
theorem dX6_isOrder_26 : decode cX6_isOrder 26 = .ok (.irem, 1) := by decide +kernel
theorem dX6_isOrder_27 : decode cX6_isOrder 27 = .ok (.iastore, 1) := by decide +kernel
theorem dX6_isOrder_28 : decode cX6_isOrder 28 = .ok (.iload_n 2, 1) := by decide +kernel
theorem dX6_isOrder_29 : decode cX6_isOrder 29 = .ok (.bipush 6, 2) := by decide +kernel
theorem dX6_isOrder_31 : decode cX6_isOrder 31 = .ok (.idiv, 1) := by decide +kernel
theorem dX6_isOrder_32 : decode cX6_isOrder 32 = .ok (.istore_n 2, 1) := by decide +kernel
theorem dX6_isOrder_33 : decode cX6_isOrder 33 = .ok (.iload_n 3, 1) := by decide +kernel
theorem dX6_isOrder_34 : decode cX6_isOrder 34 = .ok (.iload_n 1, 1) := by decide +kernel
theorem dX6_isOrder_35 : decode cX6_isOrder 35 = .ok (.ifCond .ge 7, 3) := by decide +kernel
theorem dX6_isOrder_38 : decode cX6_isOrder 38 = .ok (.iconst 0, 1) := by decide +kernel
theorem dX6_isOrder_39 : decode cX6_isOrder 39 = .ok (.goto 12, 3) := by decide +kernel
theorem dX6_isOrder_42 : decode cX6_isOrder 42 = .ok (.iconst 1, 1) := by decide +kernel
theorem dX6_isOrder_43 : decode cX6_isOrder 43 = .ok (.aload_n 0, 1) := by decide +kernel
theorem dX6_isOrder_44 : decode cX6_isOrder 44 = .ok (.getfield 58, 3) := by decide +kernel
theorem dX6_isOrder_47 : decode cX6_isOrder 47 = .ok (.iload 4, 2) := by decide +kernel
theorem dX6_isOrder_49 : decode cX6_isOrder 49 = .ok (.iaload, 1) := by decide +kernel
theorem dX6_isOrder_50 : decode cX6_isOrder 50 = .ok (.ishl, 1) := by decide +kernel
theorem dX6_isOrder_51 : decode cX6_isOrder 51 = .ok (.ior, 1) := by decide +kernel
theorem dX6_isOrder_52 : decode cX6_isOrder 52 = .ok (.istore_n 3, 1) := by decide +kernel
theorem dX6_isOrder_53 : decode cX6_isOrder 53 = .ok (.iinc 4 (-1), 3) := by decide +kernel
theorem dX6_isOrder_56 : decode cX6_isOrder 56 = .ok (.goto (-44), 3) := by decide +kernel
theorem dX6_isOrder_59 : decode cX6_isOrder 59 = .ok (.aload_n 0, 1) := by decide +kernel
theorem dX6_isOrder_60 : decode cX6_isOrder 60 = .ok (.getfield 73, 3) := by decide +kernel
theorem dX6_isOrder_63 : decode cX6_isOrder 63 = .ok (.ifCond .le 27, 3) := by decide +kernel
theorem dX6_isOrder_66 : decode cX6_isOrder 66 = .ok (.iload_n 1, 1) := by decide +kernel
theorem dX6_isOrder_67 : decode cX6_isOrder 67 = .ok (.ifCond .lt 23, 3) := by decide +kernel
theorem dX6_isOrder_70 : decode cX6_isOrder 70 = .ok (.iload_n 2, 1) := by decide +kernel
theorem dX6_isOrder_71 : decode cX6_isOrder 71 = .ok (.ifCond .ne 19, 3) := by decide +kernel
theorem dX6_isOrder_74 : decode cX6_isOrder 74 = .ok (.iload_n 3, 1) := by decide +kernel
theorem dX6_isOrder_75 : decode cX6_isOrder 75 = .ok (.iconst 1, 1) := by decide +kernel
theorem dX6_isOrder_76 : decode cX6_isOrder 76 = .ok (.aload_n 0, 1) := by decide +kernel
theorem dX6_isOrder_77 : decode cX6_isOrder 77 = .ok (.getfield 73, 3) := by decide +kernel
theorem dX6_isOrder_80 : decode cX6_isOrder 80 = .ok (.ishl, 1) := by decide +kernel
theorem dX6_isOrder_81 : decode cX6_isOrder 81 = .ok (.iconst 1, 1) := by decide +kernel
theorem dX6_isOrder_82 : decode cX6_isOrder 82 = .ok (.isub, 1) := by decide +kernel
theorem dX6_isOrder_83 : decode cX6_isOrder 83 = .ok (.if_icmp .ne 7, 3) := by decide +kernel
theorem dX6_isOrder_86 : decode cX6_isOrder 86 = .ok (.iconst 1, 1) := by decide +kernel
theorem dX6_isOrder_87 : decode cX6_isOrder 87 = .ok (.goto 4, 3) := by decide +kernel
theorem dX6_isOrder_90 : decode cX6_isOrder 90 = .ok (.iconst 0, 1) := by decide +kernel
theorem dX6_isOrder_91 : decode cX6_isOrder 91 = .ok (.ireturn, 1) := by decide +kernel
theorem dX6_quarrelOf_0 : decode cX6_quarrelOf 0 = .ok (.iconst 0, 1) := by decide +kernel
theorem dX6_quarrelOf_1 : decode cX6_quarrelOf 1 = .ok (.istore_n 1, 1) := by decide +kernel
theorem dX6_quarrelOf_2 : decode cX6_quarrelOf 2 = .ok (.aload_n 0, 1) := by decide +kernel
theorem dX6_quarrelOf_3 : decode cX6_quarrelOf 3 = .ok (.getfield 7, 3) := by decide +kernel
theorem dX6_quarrelOf_6 : decode cX6_quarrelOf 6 = .ok (.aload_n 0, 1) := by decide +kernel
theorem dX6_quarrelOf_7 : decode cX6_quarrelOf 7 = .ok (.getfield 58, 3) := by decide +kernel
theorem dX6_quarrelOf_10 : decode cX6_quarrelOf 10 = .ok (.iconst 0, 1) := by decide +kernel
theorem dX6_quarrelOf_11 : decode cX6_quarrelOf 11 = .ok (.iaload, 1) := by decide +kernel
theorem dX6_quarrelOf_12 : decode cX6_quarrelOf 12 = .ok (.iaload, 1) := by decide +kernel
theorem dX6_quarrelOf_13 : decode cX6_quarrelOf 13 = .ok (.istore_n 2, 1) := by decide +kernel
theorem dX6_quarrelOf_14 : decode cX6_quarrelOf 14 = .ok (.iconst 1, 1) := by decide +kernel
theorem dX6_quarrelOf_15 : decode cX6_quarrelOf 15 = .ok (.istore_n 3, 1) := by decide +kernel
theorem dX6_quarrelOf_16 : decode cX6_quarrelOf 16 = .ok (.iload_n 3, 1) := by decide +kernel
theorem dX6_quarrelOf_17 : decode cX6_quarrelOf 17 = .ok (.aload_n 0, 1) := by decide +kernel
theorem dX6_quarrelOf_18 : decode cX6_quarrelOf 18 = .ok (.getfield 73, 3) := by decide +kernel
theorem dX6_quarrelOf_21 : decode cX6_quarrelOf 21 = .ok (.if_icmp .ge 103, 3) := by decide +kernel
theorem dX6_quarrelOf_24 : decode cX6_quarrelOf 24 = .ok (.aload_n 0, 1) := by decide +kernel
theorem dX6_quarrelOf_25 : decode cX6_quarrelOf 25 = .ok (.getfield 7, 3) := by decide +kernel
theorem dX6_quarrelOf_28 : decode cX6_quarrelOf 28 = .ok (.aload_n 0, 1) := by decide +kernel
theorem dX6_quarrelOf_29 : decode cX6_quarrelOf 29 = .ok (.getfield 58, 3) := by decide +kernel
theorem dX6_quarrelOf_32 : decode cX6_quarrelOf 32 = .ok (.iload_n 3, 1) := by decide +kernel
theorem dX6_quarrelOf_33 : decode cX6_quarrelOf 33 = .ok (.iconst 1, 1) := by decide +kernel
theorem dX6_quarrelOf_34 : decode cX6_quarrelOf 34 = .ok (.isub, 1) := by decide +kernel
theorem dX6_quarrelOf_35 : decode cX6_quarrelOf 35 = .ok (.iaload, 1) := by decide +kernel
theorem dX6_quarrelOf_36 : decode cX6_quarrelOf 36 = .ok (.iaload, 1) := by decide +kernel
theorem dX6_quarrelOf_37 : decode cX6_quarrelOf 37 = .ok (.istore 4, 2) := by decide +kernel
theorem dX6_quarrelOf_39 : decode cX6_quarrelOf 39 = .ok (.aload_n 0, 1) := by decide +kernel
theorem dX6_quarrelOf_40 : decode cX6_quarrelOf 40 = .ok (.getfield 7, 3) := by decide +kernel
theorem dX6_quarrelOf_43 : decode cX6_quarrelOf 43 = .ok (.aload_n 0, 1) := by decide +kernel
theorem dX6_quarrelOf_44 : decode cX6_quarrelOf 44 = .ok (.getfield 58, 3) := by decide +kernel
theorem dX6_quarrelOf_47 : decode cX6_quarrelOf 47 = .ok (.iload_n 3, 1) := by decide +kernel
theorem dX6_quarrelOf_48 : decode cX6_quarrelOf 48 = .ok (.iaload, 1) := by decide +kernel
theorem dX6_quarrelOf_49 : decode cX6_quarrelOf 49 = .ok (.iaload, 1) := by decide +kernel
theorem dX6_quarrelOf_50 : decode cX6_quarrelOf 50 = .ok (.istore 5, 2) := by decide +kernel
theorem dX6_quarrelOf_52 : decode cX6_quarrelOf 52 = .ok (.iload 5, 2) := by decide +kernel
theorem dX6_quarrelOf_54 : decode cX6_quarrelOf 54 = .ok (.iload 4, 2) := by decide +kernel
theorem dX6_quarrelOf_56 : decode cX6_quarrelOf 56 = .ok (.iconst (-1), 1) := by decide +kernel
theorem dX6_quarrelOf_57 : decode cX6_quarrelOf 57 = .ok (.ixor, 1) := by decide +kernel
theorem dX6_quarrelOf_58 : decode cX6_quarrelOf 58 = .ok (.iand, 1) := by decide +kernel
theorem dX6_quarrelOf_59 : decode cX6_quarrelOf 59 = .ok (.istore 6, 2) := by decide +kernel
theorem dX6_quarrelOf_61 : decode cX6_quarrelOf 61 = .ok (.iload_n 1, 1) := by decide +kernel
theorem dX6_quarrelOf_62 : decode cX6_quarrelOf 62 = .ok (.aload_n 0, 1) := by decide +kernel
theorem dX6_quarrelOf_63 : decode cX6_quarrelOf 63 = .ok (.getfield 19, 3) := by decide +kernel
theorem dX6_quarrelOf_66 : decode cX6_quarrelOf 66 = .ok (.iconst 0, 1) := by decide +kernel
theorem dX6_quarrelOf_67 : decode cX6_quarrelOf 67 = .ok (.iaload, 1) := by decide +kernel
theorem dX6_quarrelOf_68 : decode cX6_quarrelOf 68 = .ok (.iload 6, 2) := by decide +kernel
theorem dX6_quarrelOf_70 : decode cX6_quarrelOf 70 = .ok (.iload_n 2, 1) := by decide +kernel
theorem dX6_quarrelOf_71 : decode cX6_quarrelOf 71 = .ok (.iconst (-1), 1) := by decide +kernel
theorem dX6_quarrelOf_72 : decode cX6_quarrelOf 72 = .ok (.ixor, 1) := by decide +kernel
theorem dX6_quarrelOf_73 : decode cX6_quarrelOf 73 = .ok (.iand, 1) := by decide +kernel
theorem dX6_quarrelOf_74 : decode cX6_quarrelOf 74 = .ok (.invokestatic 76, 3) := by decide +kernel
theorem dX6_quarrelOf_77 : decode cX6_quarrelOf 77 = .ok (.imul, 1) := by decide +kernel
theorem dX6_quarrelOf_78 : decode cX6_quarrelOf 78 = .ok (.aload_n 0, 1) := by decide +kernel
theorem dX6_quarrelOf_79 : decode cX6_quarrelOf 79 = .ok (.getfield 19, 3) := by decide +kernel
theorem dX6_quarrelOf_82 : decode cX6_quarrelOf 82 = .ok (.iconst 2, 1) := by decide +kernel
theorem dX6_quarrelOf_83 : decode cX6_quarrelOf 83 = .ok (.iaload, 1) := by decide +kernel
theorem dX6_quarrelOf_84 : decode cX6_quarrelOf 84 = .ok (.iload 6, 2) := by decide +kernel
theorem dX6_quarrelOf_86 : decode cX6_quarrelOf 86 = .ok (.iload_n 2, 1) := by decide +kernel
theorem dX6_quarrelOf_87 : decode cX6_quarrelOf 87 = .ok (.iand, 1) := by decide +kernel
theorem dX6_quarrelOf_88 : decode cX6_quarrelOf 88 = .ok (.invokestatic 76, 3) := by decide +kernel
theorem dX6_quarrelOf_91 : decode cX6_quarrelOf 91 = .ok (.imul, 1) := by decide +kernel
theorem dX6_quarrelOf_92 : decode cX6_quarrelOf 92 = .ok (.iadd, 1) := by decide +kernel
theorem dX6_quarrelOf_93 : decode cX6_quarrelOf 93 = .ok (.aload_n 0, 1) := by decide +kernel
theorem dX6_quarrelOf_94 : decode cX6_quarrelOf 94 = .ok (.getfield 19, 3) := by decide +kernel
theorem dX6_quarrelOf_97 : decode cX6_quarrelOf 97 = .ok (.iconst 1, 1) := by decide +kernel
theorem dX6_quarrelOf_98 : decode cX6_quarrelOf 98 = .ok (.iaload, 1) := by decide +kernel
theorem dX6_quarrelOf_99 : decode cX6_quarrelOf 99 = .ok (.iload 4, 2) := by decide +kernel
theorem dX6_quarrelOf_101 : decode cX6_quarrelOf 101 = .ok (.iload 5, 2) := by decide +kernel
theorem dX6_quarrelOf_103 : decode cX6_quarrelOf 103 = .ok (.iconst (-1), 1) := by decide +kernel
theorem dX6_quarrelOf_104 : decode cX6_quarrelOf 104 = .ok (.ixor, 1) := by decide +kernel
theorem dX6_quarrelOf_105 : decode cX6_quarrelOf 105 = .ok (.iand, 1) := by decide +kernel
theorem dX6_quarrelOf_106 : decode cX6_quarrelOf 106 = .ok (.invokestatic 76, 3) := by decide +kernel
theorem dX6_quarrelOf_109 : decode cX6_quarrelOf 109 = .ok (.imul, 1) := by decide +kernel
theorem dX6_quarrelOf_110 : decode cX6_quarrelOf 110 = .ok (.iadd, 1) := by decide +kernel
theorem dX6_quarrelOf_111 : decode cX6_quarrelOf 111 = .ok (.iadd, 1) := by decide +kernel
theorem dX6_quarrelOf_112 : decode cX6_quarrelOf 112 = .ok (.istore_n 1, 1) := by decide +kernel
theorem dX6_quarrelOf_113 : decode cX6_quarrelOf 113 = .ok (.iload_n 2, 1) := by decide +kernel
theorem dX6_quarrelOf_114 : decode cX6_quarrelOf 114 = .ok (.iload 5, 2) := by decide +kernel
theorem dX6_quarrelOf_116 : decode cX6_quarrelOf 116 = .ok (.ior, 1) := by decide +kernel
theorem dX6_quarrelOf_117 : decode cX6_quarrelOf 117 = .ok (.istore_n 2, 1) := by decide +kernel
theorem dX6_quarrelOf_118 : decode cX6_quarrelOf 118 = .ok (.iinc 3 1, 3) := by decide +kernel
theorem dX6_quarrelOf_121 : decode cX6_quarrelOf 121 = .ok (.goto (-105), 3) := by decide +kernel
theorem dX6_quarrelOf_124 : decode cX6_quarrelOf 124 = .ok (.iload_n 1, 1) := by decide +kernel
theorem dX6_quarrelOf_125 : decode cX6_quarrelOf 125 = .ok (.ireturn, 1) := by decide +kernel
theorem dX6_quarrel_0 : decode cX6_quarrel 0 = .ok (.aload_n 0, 1) := by decide +kernel
theorem dX6_quarrel_1 : decode cX6_quarrel 1 = .ok (.iconst 0, 1) := by decide +kernel
theorem dX6_quarrel_2 : decode cX6_quarrel 2 = .ok (.putfield 61, 3) := by decide +kernel
theorem dX6_quarrel_5 : decode cX6_quarrel 5 = .ok (.aload_n 0, 1) := by decide +kernel
theorem dX6_quarrel_6 : decode cX6_quarrel 6 = .ok (.iload_n 1, 1) := by decide +kernel
theorem dX6_quarrel_7 : decode cX6_quarrel 7 = .ok (.invokevirtual 80, 3) := by decide +kernel
theorem dX6_quarrel_10 : decode cX6_quarrel 10 = .ok (.ifCond .eq 10, 3) := by decide +kernel
theorem dX6_quarrel_13 : decode cX6_quarrel 13 = .ok (.aload_n 0, 1) := by decide +kernel
theorem dX6_quarrel_14 : decode cX6_quarrel 14 = .ok (.invokevirtual 84, 3) := by decide +kernel
theorem dX6_quarrel_17 : decode cX6_quarrel 17 = .ok (.goto 4, 3) := by decide +kernel
theorem dX6_quarrel_20 : decode cX6_quarrel 20 = .ok (.iconst (-1), 1) := by decide +kernel
theorem dX6_quarrel_21 : decode cX6_quarrel 21 = .ok (.ireturn, 1) := by decide +kernel
theorem dX6_best_0 : decode cX6_best 0 = .ok (.aload_n 0, 1) := by decide +kernel
theorem dX6_best_1 : decode cX6_best 1 = .ok (.iconst 0, 1) := by decide +kernel
theorem dX6_best_2 : decode cX6_best 2 = .ok (.putfield 61, 3) := by decide +kernel
theorem dX6_best_5 : decode cX6_best 5 = .ok (.iload_n 1, 1) := by decide +kernel
theorem dX6_best_6 : decode cX6_best 6 = .ok (.iconst 0, 1) := by decide +kernel
theorem dX6_best_7 : decode cX6_best 7 = .ok (.iconst 1, 1) := by decide +kernel
theorem dX6_best_8 : decode cX6_best 8 = .ok (.invokestatic 65, 3) := by decide +kernel
theorem dX6_best_11 : decode cX6_best 11 = .ok (.ifCond .ne 5, 3) := by decide +kernel
theorem dX6_best_14 : decode cX6_best 14 = .ok (.iconst (-1), 1) := by decide +kernel
theorem dX6_best_15 : decode cX6_best 15 = .ok (.ireturn, 1) := by decide +kernel
theorem dX6_best_16 : decode cX6_best 16 = .ok (.aload_n 0, 1) := by decide +kernel
theorem dX6_best_17 : decode cX6_best 17 = .ok (.getfield 73, 3) := by decide +kernel
theorem dX6_best_20 : decode cX6_best 20 = .ok (.ifCond .ne 6, 3) := by decide +kernel
theorem dX6_best_23 : decode cX6_best 23 = .ok (.bipush (-2), 2) := by decide +kernel
theorem dX6_best_25 : decode cX6_best 25 = .ok (.ireturn, 1) := by decide +kernel
theorem dX6_best_26 : decode cX6_best 26 = .ok (.iconst 1, 1) := by decide +kernel
theorem dX6_best_27 : decode cX6_best 27 = .ok (.istore_n 2, 1) := by decide +kernel
theorem dX6_best_28 : decode cX6_best 28 = .ok (.iconst 0, 1) := by decide +kernel
theorem dX6_best_29 : decode cX6_best 29 = .ok (.istore_n 3, 1) := by decide +kernel
theorem dX6_best_30 : decode cX6_best 30 = .ok (.iload_n 3, 1) := by decide +kernel
theorem dX6_best_31 : decode cX6_best 31 = .ok (.aload_n 0, 1) := by decide +kernel
theorem dX6_best_32 : decode cX6_best 32 = .ok (.getfield 73, 3) := by decide +kernel
theorem dX6_best_35 : decode cX6_best 35 = .ok (.if_icmp .ge 14, 3) := by decide +kernel
theorem dX6_best_38 : decode cX6_best 38 = .ok (.iload_n 2, 1) := by decide +kernel
theorem dX6_best_39 : decode cX6_best 39 = .ok (.bipush 6, 2) := by decide +kernel
theorem dX6_best_41 : decode cX6_best 41 = .ok (.imul, 1) := by decide +kernel
theorem dX6_best_42 : decode cX6_best 42 = .ok (.istore_n 2, 1) := by decide +kernel
theorem dX6_best_43 : decode cX6_best 43 = .ok (.iinc 3 1, 3) := by decide +kernel
theorem dX6_best_46 : decode cX6_best 46 = .ok (.goto (-16), 3) := by decide +kernel
theorem dX6_best_49 : decode cX6_best 49 = .ok (.bipush (-9), 2) := by decide +kernel
theorem dX6_best_51 : decode cX6_best 51 = .ok (.istore_n 3, 1) := by decide +kernel
theorem dX6_best_52 : decode cX6_best 52 = .ok (.iconst 0, 1) := by decide +kernel
theorem dX6_best_53 : decode cX6_best 53 = .ok (.istore 4, 2) := by decide +kernel
theorem dX6_best_55 : decode cX6_best 55 = .ok (.iconst 0, 1) := by decide +kernel
theorem dX6_best_56 : decode cX6_best 56 = .ok (.istore 5, 2) := by decide +kernel
theorem dX6_best_58 : decode cX6_best 58 = .ok (.iload 5, 2) := by decide +kernel
theorem dX6_best_60 : decode cX6_best 60 = .ok (.iload_n 2, 1) := by decide +kernel
theorem dX6_best_61 : decode cX6_best 61 = .ok (.if_icmp .ge 44, 3) := by decide +kernel
theorem dX6_best_64 : decode cX6_best 64 = .ok (.aload_n 0, 1) := by decide +kernel
theorem dX6_best_65 : decode cX6_best 65 = .ok (.iload 5, 2) := by decide +kernel
theorem dX6_best_67 : decode cX6_best 67 = .ok (.invokevirtual 80, 3) := by decide +kernel
theorem dX6_best_70 : decode cX6_best 70 = .ok (.ifCond .eq 29, 3) := by decide +kernel
theorem dX6_best_73 : decode cX6_best 73 = .ok (.aload_n 0, 1) := by decide +kernel
theorem dX6_best_74 : decode cX6_best 74 = .ok (.invokevirtual 84, 3) := by decide +kernel
theorem dX6_best_77 : decode cX6_best 77 = .ok (.istore 6, 2) := by decide +kernel
theorem dX6_best_79 : decode cX6_best 79 = .ok (.iload_n 3, 1) := by decide +kernel
theorem dX6_best_80 : decode cX6_best 80 = .ok (.bipush (-9), 2) := by decide +kernel
theorem dX6_best_82 : decode cX6_best 82 = .ok (.if_icmp .eq 10, 3) := by decide +kernel
theorem dX6_best_85 : decode cX6_best 85 = .ok (.iload 6, 2) := by decide +kernel
theorem dX6_best_87 : decode cX6_best 87 = .ok (.iload 4, 2) := by decide +kernel
theorem dX6_best_89 : decode cX6_best 89 = .ok (.if_icmp .ge 10, 3) := by decide +kernel
theorem dX6_best_92 : decode cX6_best 92 = .ok (.iload 5, 2) := by decide +kernel
theorem dX6_best_94 : decode cX6_best 94 = .ok (.istore_n 3, 1) := by decide +kernel
theorem dX6_best_95 : decode cX6_best 95 = .ok (.iload 6, 2) := by decide +kernel
theorem dX6_best_97 : decode cX6_best 97 = .ok (.istore 4, 2) := by decide +kernel
theorem dX6_best_99 : decode cX6_best 99 = .ok (.iinc 5 1, 3) := by decide +kernel
theorem dX6_best_102 : decode cX6_best 102 = .ok (.goto (-44), 3) := by decide +kernel
theorem dX6_best_105 : decode cX6_best 105 = .ok (.iload_n 1, 1) := by decide +kernel
theorem dX6_best_106 : decode cX6_best 106 = .ok (.ifCond .ne 7, 3) := by decide +kernel
theorem dX6_best_109 : decode cX6_best 109 = .ok (.iload_n 3, 1) := by decide +kernel
theorem dX6_best_110 : decode cX6_best 110 = .ok (.goto 5, 3) := by decide +kernel
theorem dX6_best_113 : decode cX6_best 113 = .ok (.iload 4, 2) := by decide +kernel
theorem dX6_best_115 : decode cX6_best 115 = .ok (.ireturn, 1) := by decide +kernel
theorem dX6_isLeaf_0 : decode cX6_isLeaf 0 = .ok (.iload_n 1, 1) := by decide +kernel
theorem dX6_isLeaf_1 : decode cX6_isLeaf 1 = .ok (.iconst 0, 1) := by decide +kernel
theorem dX6_isLeaf_2 : decode cX6_isLeaf 2 = .ok (.aload_n 0, 1) := by decide +kernel
theorem dX6_isLeaf_3 : decode cX6_isLeaf 3 = .ok (.getfield 88, 3) := by decide +kernel
theorem dX6_isLeaf_6 : decode cX6_isLeaf 6 = .ok (.iconst 1, 1) := by decide +kernel
theorem dX6_isLeaf_7 : decode cX6_isLeaf 7 = .ok (.isub, 1) := by decide +kernel
theorem dX6_isLeaf_8 : decode cX6_isLeaf 8 = .ok (.invokestatic 65, 3) := by decide +kernel
theorem dX6_isLeaf_11 : decode cX6_isLeaf 11 = .ok (.ireturn, 1) := by decide +kernel
theorem dX6_leaf_0 : decode cX6_leaf 0 = .ok (.aload_n 0, 1) := by decide +kernel
theorem dX6_leaf_1 : decode cX6_leaf 1 = .ok (.iconst 0, 1) := by decide +kernel
theorem dX6_leaf_2 : decode cX6_leaf 2 = .ok (.putfield 61, 3) := by decide +kernel
theorem dX6_leaf_5 : decode cX6_leaf 5 = .ok (.iload_n 1, 1) := by decide +kernel
theorem dX6_leaf_6 : decode cX6_leaf 6 = .ok (.iconst 0, 1) := by decide +kernel
theorem dX6_leaf_7 : decode cX6_leaf 7 = .ok (.sipush 4095, 3) := by decide +kernel
theorem dX6_leaf_10 : decode cX6_leaf 10 = .ok (.invokestatic 65, 3) := by decide +kernel
theorem dX6_leaf_13 : decode cX6_leaf 13 = .ok (.ifCond .eq 41, 3) := by decide +kernel
theorem dX6_leaf_16 : decode cX6_leaf 16 = .ok (.iload_n 2, 1) := by decide +kernel
theorem dX6_leaf_17 : decode cX6_leaf 17 = .ok (.iconst 0, 1) := by decide +kernel
theorem dX6_leaf_18 : decode cX6_leaf 18 = .ok (.sipush 4095, 3) := by decide +kernel
theorem dX6_leaf_21 : decode cX6_leaf 21 = .ok (.invokestatic 65, 3) := by decide +kernel
theorem dX6_leaf_24 : decode cX6_leaf 24 = .ok (.ifCond .eq 30, 3) := by decide +kernel
theorem dX6_leaf_27 : decode cX6_leaf 27 = .ok (.iload_n 1, 1) := by decide +kernel
theorem dX6_leaf_28 : decode cX6_leaf 28 = .ok (.iload_n 2, 1) := by decide +kernel
theorem dX6_leaf_29 : decode cX6_leaf 29 = .ok (.iand, 1) := by decide +kernel
theorem dX6_leaf_30 : decode cX6_leaf 30 = .ok (.ifCond .ne 24, 3) := by decide +kernel
theorem dX6_leaf_33 : decode cX6_leaf 33 = .ok (.iload_n 3, 1) := by decide +kernel
theorem dX6_leaf_34 : decode cX6_leaf 34 = .ok (.iconst 0, 1) := by decide +kernel
theorem dX6_leaf_35 : decode cX6_leaf 35 = .ok (.sipush 1000, 3) := by decide +kernel
theorem dX6_leaf_38 : decode cX6_leaf 38 = .ok (.invokestatic 65, 3) := by decide +kernel
theorem dX6_leaf_41 : decode cX6_leaf 41 = .ok (.ifCond .eq 13, 3) := by decide +kernel
theorem dX6_leaf_44 : decode cX6_leaf 44 = .ok (.iload 4, 2) := by decide +kernel
theorem dX6_leaf_46 : decode cX6_leaf 46 = .ok (.iconst 0, 1) := by decide +kernel
theorem dX6_leaf_47 : decode cX6_leaf 47 = .ok (.iconst 2, 1) := by decide +kernel
theorem dX6_leaf_48 : decode cX6_leaf 48 = .ok (.invokestatic 65, 3) := by decide +kernel
theorem dX6_leaf_51 : decode cX6_leaf 51 = .ok (.ifCond .ne 5, 3) := by decide +kernel
theorem dX6_leaf_54 : decode cX6_leaf 54 = .ok (.iconst (-1), 1) := by decide +kernel
theorem dX6_leaf_55 : decode cX6_leaf 55 = .ok (.ireturn, 1) := by decide +kernel
theorem dX6_leaf_56 : decode cX6_leaf 56 = .ok (.aload_n 0, 1) := by decide +kernel
theorem dX6_leaf_57 : decode cX6_leaf 57 = .ok (.getfield 88, 3) := by decide +kernel
theorem dX6_leaf_60 : decode cX6_leaf 60 = .ok (.bipush 20, 2) := by decide +kernel
theorem dX6_leaf_62 : decode cX6_leaf 62 = .ok (.if_icmp .ne 6, 3) := by decide +kernel
theorem dX6_leaf_65 : decode cX6_leaf 65 = .ok (.bipush (-3), 2) := by decide +kernel
theorem dX6_leaf_67 : decode cX6_leaf 67 = .ok (.ireturn, 1) := by decide +kernel
theorem dX6_leaf_68 : decode cX6_leaf 68 = .ok (.aload_n 0, 1) := by decide +kernel
theorem dX6_leaf_69 : decode cX6_leaf 69 = .ok (.getfield 22, 3) := by decide +kernel
theorem dX6_leaf_72 : decode cX6_leaf 72 = .ok (.aload_n 0, 1) := by decide +kernel
theorem dX6_leaf_73 : decode cX6_leaf 73 = .ok (.getfield 88, 3) := by decide +kernel
theorem dX6_leaf_76 : decode cX6_leaf 76 = .ok (.iload_n 1, 1) := by decide +kernel
theorem dX6_leaf_77 : decode cX6_leaf 77 = .ok (.iastore, 1) := by decide +kernel
theorem dX6_leaf_78 : decode cX6_leaf 78 = .ok (.aload_n 0, 1) := by decide +kernel
theorem dX6_leaf_79 : decode cX6_leaf 79 = .ok (.getfield 25, 3) := by decide +kernel
theorem dX6_leaf_82 : decode cX6_leaf 82 = .ok (.aload_n 0, 1) := by decide +kernel
theorem dX6_leaf_83 : decode cX6_leaf 83 = .ok (.getfield 88, 3) := by decide +kernel
theorem dX6_leaf_86 : decode cX6_leaf 86 = .ok (.iload_n 2, 1) := by decide +kernel
theorem dX6_leaf_87 : decode cX6_leaf 87 = .ok (.iastore, 1) := by decide +kernel
theorem dX6_leaf_88 : decode cX6_leaf 88 = .ok (.aload_n 0, 1) := by decide +kernel
theorem dX6_leaf_89 : decode cX6_leaf 89 = .ok (.getfield 28, 3) := by decide +kernel
theorem dX6_leaf_92 : decode cX6_leaf 92 = .ok (.aload_n 0, 1) := by decide +kernel
theorem dX6_leaf_93 : decode cX6_leaf 93 = .ok (.getfield 88, 3) := by decide +kernel
theorem dX6_leaf_96 : decode cX6_leaf 96 = .ok (.iload_n 3, 1) := by decide +kernel
theorem dX6_leaf_97 : decode cX6_leaf 97 = .ok (.iastore, 1) := by decide +kernel
theorem dX6_leaf_98 : decode cX6_leaf 98 = .ok (.aload_n 0, 1) := by decide +kernel
theorem dX6_leaf_99 : decode cX6_leaf 99 = .ok (.getfield 31, 3) := by decide +kernel
theorem dX6_leaf_102 : decode cX6_leaf 102 = .ok (.aload_n 0, 1) := by decide +kernel
theorem dX6_leaf_103 : decode cX6_leaf 103 = .ok (.getfield 88, 3) := by decide +kernel
theorem dX6_leaf_106 : decode cX6_leaf 106 = .ok (.iload 4, 2) := by decide +kernel
theorem dX6_leaf_108 : decode cX6_leaf 108 = .ok (.iastore, 1) := by decide +kernel
theorem dX6_leaf_109 : decode cX6_leaf 109 = .ok (.aload_n 0, 1) := by decide +kernel
theorem dX6_leaf_110 : decode cX6_leaf 110 = .ok (.getfield 34, 3) := by decide +kernel
theorem dX6_leaf_113 : decode cX6_leaf 113 = .ok (.aload_n 0, 1) := by decide +kernel
theorem dX6_leaf_114 : decode cX6_leaf 114 = .ok (.getfield 88, 3) := by decide +kernel
theorem dX6_leaf_117 : decode cX6_leaf 117 = .ok (.bipush (-9), 2) := by decide +kernel
theorem dX6_leaf_119 : decode cX6_leaf 119 = .ok (.iastore, 1) := by decide +kernel
theorem dX6_leaf_120 : decode cX6_leaf 120 = .ok (.aload_n 0, 1) := by decide +kernel
theorem dX6_leaf_121 : decode cX6_leaf 121 = .ok (.getfield 37, 3) := by decide +kernel
theorem dX6_leaf_124 : decode cX6_leaf 124 = .ok (.aload_n 0, 1) := by decide +kernel
theorem dX6_leaf_125 : decode cX6_leaf 125 = .ok (.getfield 88, 3) := by decide +kernel
theorem dX6_leaf_128 : decode cX6_leaf 128 = .ok (.bipush (-9), 2) := by decide +kernel
theorem dX6_leaf_130 : decode cX6_leaf 130 = .ok (.iastore, 1) := by decide +kernel
theorem dX6_leaf_131 : decode cX6_leaf 131 = .ok (.aload_n 0, 1) := by decide +kernel
theorem dX6_leaf_132 : decode cX6_leaf 132 = .ok (.dup, 1) := by decide +kernel
theorem dX6_leaf_133 : decode cX6_leaf 133 = .ok (.getfield 88, 3) := by decide +kernel
theorem dX6_leaf_136 : decode cX6_leaf 136 = .ok (.iconst 1, 1) := by decide +kernel
theorem dX6_leaf_137 : decode cX6_leaf 137 = .ok (.iadd, 1) := by decide +kernel
theorem dX6_leaf_138 : decode cX6_leaf 138 = .ok (.putfield 88, 3) := by decide +kernel
theorem dX6_leaf_141 : decode cX6_leaf 141 = .ok (.aload_n 0, 1) := by decide +kernel
theorem dX6_leaf_142 : decode cX6_leaf 142 = .ok (.getfield 88, 3) := by decide +kernel
theorem dX6_leaf_145 : decode cX6_leaf 145 = .ok (.iconst 1, 1) := by decide +kernel
theorem dX6_leaf_146 : decode cX6_leaf 146 = .ok (.isub, 1) := by decide +kernel
theorem dX6_leaf_147 : decode cX6_leaf 147 = .ok (.ireturn, 1) := by decide +kernel
theorem dX6_see_0 : decode cX6_see 0 = .ok (.aload_n 0, 1) := by decide +kernel
theorem dX6_see_1 : decode cX6_see 1 = .ok (.iconst 0, 1) := by decide +kernel
theorem dX6_see_2 : decode cX6_see 2 = .ok (.putfield 61, 3) := by decide +kernel
theorem dX6_see_5 : decode cX6_see 5 = .ok (.aload_n 0, 1) := by decide +kernel
theorem dX6_see_6 : decode cX6_see 6 = .ok (.iload_n 1, 1) := by decide +kernel
theorem dX6_see_7 : decode cX6_see 7 = .ok (.invokevirtual 91, 3) := by decide +kernel
theorem dX6_see_10 : decode cX6_see 10 = .ok (.ifCond .eq 22, 3) := by decide +kernel
theorem dX6_see_13 : decode cX6_see 13 = .ok (.iload_n 2, 1) := by decide +kernel
theorem dX6_see_14 : decode cX6_see 14 = .ok (.iconst 0, 1) := by decide +kernel
theorem dX6_see_15 : decode cX6_see 15 = .ok (.bipush 11, 2) := by decide +kernel
theorem dX6_see_17 : decode cX6_see 17 = .ok (.invokestatic 65, 3) := by decide +kernel
theorem dX6_see_20 : decode cX6_see 20 = .ok (.ifCond .eq 12, 3) := by decide +kernel
theorem dX6_see_23 : decode cX6_see 23 = .ok (.iload_n 3, 1) := by decide +kernel
theorem dX6_see_24 : decode cX6_see 24 = .ok (.iconst 0, 1) := by decide +kernel
theorem dX6_see_25 : decode cX6_see 25 = .ok (.iconst 2, 1) := by decide +kernel
theorem dX6_see_26 : decode cX6_see 26 = .ok (.invokestatic 65, 3) := by decide +kernel
theorem dX6_see_29 : decode cX6_see 29 = .ok (.ifCond .ne 5, 3) := by decide +kernel
theorem dX6_see_32 : decode cX6_see 32 = .ok (.iconst (-1), 1) := by decide +kernel
theorem dX6_see_33 : decode cX6_see 33 = .ok (.ireturn, 1) := by decide +kernel
theorem dX6_see_34 : decode cX6_see 34 = .ok (.aload_n 0, 1) := by decide +kernel
theorem dX6_see_35 : decode cX6_see 35 = .ok (.getfield 22, 3) := by decide +kernel
theorem dX6_see_38 : decode cX6_see 38 = .ok (.iload_n 1, 1) := by decide +kernel
theorem dX6_see_39 : decode cX6_see 39 = .ok (.iaload, 1) := by decide +kernel
theorem dX6_see_40 : decode cX6_see 40 = .ok (.iload_n 2, 1) := by decide +kernel
theorem dX6_see_41 : decode cX6_see 41 = .ok (.ishr, 1) := by decide +kernel
theorem dX6_see_42 : decode cX6_see 42 = .ok (.iconst 1, 1) := by decide +kernel
theorem dX6_see_43 : decode cX6_see 43 = .ok (.iand, 1) := by decide +kernel
theorem dX6_see_44 : decode cX6_see 44 = .ok (.iconst 2, 1) := by decide +kernel
theorem dX6_see_45 : decode cX6_see 45 = .ok (.aload_n 0, 1) := by decide +kernel
theorem dX6_see_46 : decode cX6_see 46 = .ok (.getfield 25, 3) := by decide +kernel
theorem dX6_see_49 : decode cX6_see 49 = .ok (.iload_n 1, 1) := by decide +kernel
theorem dX6_see_50 : decode cX6_see 50 = .ok (.iaload, 1) := by decide +kernel
theorem dX6_see_51 : decode cX6_see 51 = .ok (.iload_n 2, 1) := by decide +kernel
theorem dX6_see_52 : decode cX6_see 52 = .ok (.ishr, 1) := by decide +kernel
theorem dX6_see_53 : decode cX6_see 53 = .ok (.iconst 1, 1) := by decide +kernel
theorem dX6_see_54 : decode cX6_see 54 = .ok (.iand, 1) := by decide +kernel
theorem dX6_see_55 : decode cX6_see 55 = .ok (.imul, 1) := by decide +kernel
theorem dX6_see_56 : decode cX6_see 56 = .ok (.iadd, 1) := by decide +kernel
theorem dX6_see_57 : decode cX6_see 57 = .ok (.istore 4, 2) := by decide +kernel
theorem dX6_see_59 : decode cX6_see 59 = .ok (.aload_n 0, 1) := by decide +kernel
theorem dX6_see_60 : decode cX6_see 60 = .ok (.getfield 22, 3) := by decide +kernel
theorem dX6_see_63 : decode cX6_see 63 = .ok (.iload_n 1, 1) := by decide +kernel
theorem dX6_see_64 : decode cX6_see 64 = .ok (.aload_n 0, 1) := by decide +kernel
theorem dX6_see_65 : decode cX6_see 65 = .ok (.getfield 22, 3) := by decide +kernel
theorem dX6_see_68 : decode cX6_see 68 = .ok (.iload_n 1, 1) := by decide +kernel
theorem dX6_see_69 : decode cX6_see 69 = .ok (.iaload, 1) := by decide +kernel
theorem dX6_see_70 : decode cX6_see 70 = .ok (.iconst 1, 1) := by decide +kernel
theorem dX6_see_71 : decode cX6_see 71 = .ok (.iload_n 2, 1) := by decide +kernel
theorem dX6_see_72 : decode cX6_see 72 = .ok (.ishl, 1) := by decide +kernel
theorem dX6_see_73 : decode cX6_see 73 = .ok (.iconst (-1), 1) := by decide +kernel
theorem dX6_see_74 : decode cX6_see 74 = .ok (.ixor, 1) := by decide +kernel
theorem dX6_see_75 : decode cX6_see 75 = .ok (.iand, 1) := by decide +kernel
theorem dX6_see_76 : decode cX6_see 76 = .ok (.iload_n 3, 1) := by decide +kernel
theorem dX6_see_77 : decode cX6_see 77 = .ok (.iconst 1, 1) := by decide +kernel
theorem dX6_see_78 : decode cX6_see 78 = .ok (.if_icmp .ne 9, 3) := by decide +kernel
theorem dX6_see_81 : decode cX6_see 81 = .ok (.iconst 1, 1) := by decide +kernel
theorem dX6_see_82 : decode cX6_see 82 = .ok (.iload_n 2, 1) := by decide +kernel
theorem dX6_see_83 : decode cX6_see 83 = .ok (.ishl, 1) := by decide +kernel
theorem dX6_see_84 : decode cX6_see 84 = .ok (.goto 4, 3) := by decide +kernel
theorem dX6_see_87 : decode cX6_see 87 = .ok (.iconst 0, 1) := by decide +kernel
theorem dX6_see_88 : decode cX6_see 88 = .ok (.ior, 1) := by decide +kernel
theorem dX6_see_89 : decode cX6_see 89 = .ok (.iastore, 1) := by decide +kernel
theorem dX6_see_90 : decode cX6_see 90 = .ok (.aload_n 0, 1) := by decide +kernel
theorem dX6_see_91 : decode cX6_see 91 = .ok (.getfield 25, 3) := by decide +kernel
theorem dX6_see_94 : decode cX6_see 94 = .ok (.iload_n 1, 1) := by decide +kernel
theorem dX6_see_95 : decode cX6_see 95 = .ok (.aload_n 0, 1) := by decide +kernel
theorem dX6_see_96 : decode cX6_see 96 = .ok (.getfield 25, 3) := by decide +kernel
theorem dX6_see_99 : decode cX6_see 99 = .ok (.iload_n 1, 1) := by decide +kernel
theorem dX6_see_100 : decode cX6_see 100 = .ok (.iaload, 1) := by decide +kernel
theorem dX6_see_101 : decode cX6_see 101 = .ok (.iconst 1, 1) := by decide +kernel
theorem dX6_see_102 : decode cX6_see 102 = .ok (.iload_n 2, 1) := by decide +kernel
theorem dX6_see_103 : decode cX6_see 103 = .ok (.ishl, 1) := by decide +kernel
theorem dX6_see_104 : decode cX6_see 104 = .ok (.iconst (-1), 1) := by decide +kernel
theorem dX6_see_105 : decode cX6_see 105 = .ok (.ixor, 1) := by decide +kernel
theorem dX6_see_106 : decode cX6_see 106 = .ok (.iand, 1) := by decide +kernel
theorem dX6_see_107 : decode cX6_see 107 = .ok (.iload_n 3, 1) := by decide +kernel
theorem dX6_see_108 : decode cX6_see 108 = .ok (.iconst 2, 1) := by decide +kernel
theorem dX6_see_109 : decode cX6_see 109 = .ok (.if_icmp .ne 9, 3) := by decide +kernel
theorem dX6_see_112 : decode cX6_see 112 = .ok (.iconst 1, 1) := by decide +kernel
theorem dX6_see_113 : decode cX6_see 113 = .ok (.iload_n 2, 1) := by decide +kernel
theorem dX6_see_114 : decode cX6_see 114 = .ok (.ishl, 1) := by decide +kernel
theorem dX6_see_115 : decode cX6_see 115 = .ok (.goto 4, 3) := by decide +kernel
theorem dX6_see_118 : decode cX6_see 118 = .ok (.iconst 0, 1) := by decide +kernel
theorem dX6_see_119 : decode cX6_see 119 = .ok (.ior, 1) := by decide +kernel
theorem dX6_see_120 : decode cX6_see 120 = .ok (.iastore, 1) := by decide +kernel
theorem dX6_see_121 : decode cX6_see 121 = .ok (.iload 4, 2) := by decide +kernel
theorem dX6_see_123 : decode cX6_see 123 = .ok (.ireturn, 1) := by decide +kernel
theorem dX6_candidatesOf_0 : decode cX6_candidatesOf 0 = .ok (.iconst 0, 1) := by decide +kernel
theorem dX6_candidatesOf_1 : decode cX6_candidatesOf 1 = .ok (.istore_n 2, 1) := by decide +kernel
theorem dX6_candidatesOf_2 : decode cX6_candidatesOf 2 = .ok (.iconst 0, 1) := by decide +kernel
theorem dX6_candidatesOf_3 : decode cX6_candidatesOf 3 = .ok (.istore_n 3, 1) := by decide +kernel
theorem dX6_candidatesOf_4 : decode cX6_candidatesOf 4 = .ok (.iload_n 3, 1) := by decide +kernel
theorem dX6_candidatesOf_5 : decode cX6_candidatesOf 5 = .ok (.aload_n 0, 1) := by decide +kernel
theorem dX6_candidatesOf_6 : decode cX6_candidatesOf 6 = .ok (.getfield 73, 3) := by decide +kernel
theorem dX6_candidatesOf_9 : decode cX6_candidatesOf 9 = .ok (.if_icmp .ge 53, 3) := by decide +kernel
theorem dX6_candidatesOf_12 : decode cX6_candidatesOf 12 = .ok (.iload_n 2, 1) := by decide +kernel
theorem dX6_candidatesOf_13 : decode cX6_candidatesOf 13 = .ok (.aload_n 0, 1) := by decide +kernel
theorem dX6_candidatesOf_14 : decode cX6_candidatesOf 14 = .ok (.getfield 22, 3) := by decide +kernel
theorem dX6_candidatesOf_17 : decode cX6_candidatesOf 17 = .ok (.iload_n 1, 1) := by decide +kernel
theorem dX6_candidatesOf_18 : decode cX6_candidatesOf 18 = .ok (.iaload, 1) := by decide +kernel
theorem dX6_candidatesOf_19 : decode cX6_candidatesOf 19 = .ok (.aload_n 0, 1) := by decide +kernel
theorem dX6_candidatesOf_20 : decode cX6_candidatesOf 20 = .ok (.getfield 7, 3) := by decide +kernel
theorem dX6_candidatesOf_23 : decode cX6_candidatesOf 23 = .ok (.iload_n 3, 1) := by decide +kernel
theorem dX6_candidatesOf_24 : decode cX6_candidatesOf 24 = .ok (.iaload, 1) := by decide +kernel
theorem dX6_candidatesOf_25 : decode cX6_candidatesOf 25 = .ok (.iconst (-1), 1) := by decide +kernel
theorem dX6_candidatesOf_26 : decode cX6_candidatesOf 26 = .ok (.ixor, 1) := by decide +kernel
theorem dX6_candidatesOf_27 : decode cX6_candidatesOf 27 = .ok (.iand, 1) := by decide +kernel
theorem dX6_candidatesOf_28 : decode cX6_candidatesOf 28 = .ok (.ifCond .ne 25, 3) := by decide +kernel
theorem dX6_candidatesOf_31 : decode cX6_candidatesOf 31 = .ok (.aload_n 0, 1) := by decide +kernel
theorem dX6_candidatesOf_32 : decode cX6_candidatesOf 32 = .ok (.getfield 25, 3) := by decide +kernel
theorem dX6_candidatesOf_35 : decode cX6_candidatesOf 35 = .ok (.iload_n 1, 1) := by decide +kernel
theorem dX6_candidatesOf_36 : decode cX6_candidatesOf 36 = .ok (.iaload, 1) := by decide +kernel
theorem dX6_candidatesOf_37 : decode cX6_candidatesOf 37 = .ok (.aload_n 0, 1) := by decide +kernel
theorem dX6_candidatesOf_38 : decode cX6_candidatesOf 38 = .ok (.getfield 7, 3) := by decide +kernel
theorem dX6_candidatesOf_41 : decode cX6_candidatesOf 41 = .ok (.iload_n 3, 1) := by decide +kernel
theorem dX6_candidatesOf_42 : decode cX6_candidatesOf 42 = .ok (.iaload, 1) := by decide +kernel
theorem dX6_candidatesOf_43 : decode cX6_candidatesOf 43 = .ok (.iand, 1) := by decide +kernel
theorem dX6_candidatesOf_44 : decode cX6_candidatesOf 44 = .ok (.ifCond .ne 9, 3) := by decide +kernel
theorem dX6_candidatesOf_47 : decode cX6_candidatesOf 47 = .ok (.iconst 1, 1) := by decide +kernel
theorem dX6_candidatesOf_48 : decode cX6_candidatesOf 48 = .ok (.iload_n 3, 1) := by decide +kernel
theorem dX6_candidatesOf_49 : decode cX6_candidatesOf 49 = .ok (.ishl, 1) := by decide +kernel
theorem dX6_candidatesOf_50 : decode cX6_candidatesOf 50 = .ok (.goto 4, 3) := by decide +kernel
theorem dX6_candidatesOf_53 : decode cX6_candidatesOf 53 = .ok (.iconst 0, 1) := by decide +kernel
theorem dX6_candidatesOf_54 : decode cX6_candidatesOf 54 = .ok (.ior, 1) := by decide +kernel
theorem dX6_candidatesOf_55 : decode cX6_candidatesOf 55 = .ok (.istore_n 2, 1) := by decide +kernel
theorem dX6_candidatesOf_56 : decode cX6_candidatesOf 56 = .ok (.iinc 3 1, 3) := by decide +kernel
theorem dX6_candidatesOf_59 : decode cX6_candidatesOf 59 = .ok (.goto (-55), 3) := by decide +kernel
theorem dX6_candidatesOf_62 : decode cX6_candidatesOf 62 = .ok (.iload_n 2, 1) := by decide +kernel
theorem dX6_candidatesOf_63 : decode cX6_candidatesOf 63 = .ok (.ireturn, 1) := by decide +kernel
theorem dX6_candidates_0 : decode cX6_candidates 0 = .ok (.aload_n 0, 1) := by decide +kernel
theorem dX6_candidates_1 : decode cX6_candidates 1 = .ok (.iconst 0, 1) := by decide +kernel
theorem dX6_candidates_2 : decode cX6_candidates 2 = .ok (.putfield 61, 3) := by decide +kernel
theorem dX6_candidates_5 : decode cX6_candidates 5 = .ok (.aload_n 0, 1) := by decide +kernel
theorem dX6_candidates_6 : decode cX6_candidates 6 = .ok (.iload_n 1, 1) := by decide +kernel
theorem dX6_candidates_7 : decode cX6_candidates 7 = .ok (.invokevirtual 91, 3) := by decide +kernel
theorem dX6_candidates_10 : decode cX6_candidates 10 = .ok (.ifCond .eq 11, 3) := by decide +kernel
theorem dX6_candidates_13 : decode cX6_candidates 13 = .ok (.aload_n 0, 1) := by decide +kernel
theorem dX6_candidates_14 : decode cX6_candidates 14 = .ok (.iload_n 1, 1) := by decide +kernel
theorem dX6_candidates_15 : decode cX6_candidates 15 = .ok (.invokevirtual 94, 3) := by decide +kernel
theorem dX6_candidates_18 : decode cX6_candidates 18 = .ok (.goto 4, 3) := by decide +kernel
theorem dX6_candidates_21 : decode cX6_candidates 21 = .ok (.iconst (-1), 1) := by decide +kernel
theorem dX6_candidates_22 : decode cX6_candidates 22 = .ok (.ireturn, 1) := by decide +kernel
theorem dX6_mould_0 : decode cX6_mould 0 = .ok (.aload_n 0, 1) := by decide +kernel
theorem dX6_mould_1 : decode cX6_mould 1 = .ok (.iconst 0, 1) := by decide +kernel
theorem dX6_mould_2 : decode cX6_mould 2 = .ok (.putfield 61, 3) := by decide +kernel
theorem dX6_mould_5 : decode cX6_mould 5 = .ok (.iload_n 1, 1) := by decide +kernel
theorem dX6_mould_6 : decode cX6_mould 6 = .ok (.iload_n 2, 1) := by decide +kernel
theorem dX6_mould_7 : decode cX6_mould 7 = .ok (.invokestatic 69, 3) := by decide +kernel
theorem dX6_mould_10 : decode cX6_mould 10 = .ok (.ifCond .ne 5, 3) := by decide +kernel
theorem dX6_mould_13 : decode cX6_mould 13 = .ok (.iconst (-1), 1) := by decide +kernel
theorem dX6_mould_14 : decode cX6_mould 14 = .ok (.ireturn, 1) := by decide +kernel
theorem dX6_mould_15 : decode cX6_mould 15 = .ok (.aload_n 0, 1) := by decide +kernel
theorem dX6_mould_16 : decode cX6_mould 16 = .ok (.getfield 97, 3) := by decide +kernel
theorem dX6_mould_19 : decode cX6_mould 19 = .ok (.bipush 8, 2) := by decide +kernel
theorem dX6_mould_21 : decode cX6_mould 21 = .ok (.if_icmp .ne 6, 3) := by decide +kernel
theorem dX6_mould_24 : decode cX6_mould 24 = .ok (.bipush (-3), 2) := by decide +kernel
theorem dX6_mould_26 : decode cX6_mould 26 = .ok (.ireturn, 1) := by decide +kernel
theorem dX6_mould_27 : decode cX6_mould 27 = .ok (.aload_n 0, 1) := by decide +kernel
theorem dX6_mould_28 : decode cX6_mould 28 = .ok (.getfield 40, 3) := by decide +kernel
theorem dX6_mould_31 : decode cX6_mould 31 = .ok (.aload_n 0, 1) := by decide +kernel
theorem dX6_mould_32 : decode cX6_mould 32 = .ok (.getfield 97, 3) := by decide +kernel
theorem dX6_mould_35 : decode cX6_mould 35 = .ok (.iload_n 1, 1) := by decide +kernel
theorem dX6_mould_36 : decode cX6_mould 36 = .ok (.iastore, 1) := by decide +kernel
theorem dX6_mould_37 : decode cX6_mould 37 = .ok (.aload_n 0, 1) := by decide +kernel
theorem dX6_mould_38 : decode cX6_mould 38 = .ok (.getfield 43, 3) := by decide +kernel
theorem dX6_mould_41 : decode cX6_mould 41 = .ok (.aload_n 0, 1) := by decide +kernel
theorem dX6_mould_42 : decode cX6_mould 42 = .ok (.getfield 97, 3) := by decide +kernel
theorem dX6_mould_45 : decode cX6_mould 45 = .ok (.iload_n 2, 1) := by decide +kernel
theorem dX6_mould_46 : decode cX6_mould 46 = .ok (.iastore, 1) := by decide +kernel
theorem dX6_mould_47 : decode cX6_mould 47 = .ok (.aload_n 0, 1) := by decide +kernel
theorem dX6_mould_48 : decode cX6_mould 48 = .ok (.dup, 1) := by decide +kernel
theorem dX6_mould_49 : decode cX6_mould 49 = .ok (.getfield 97, 3) := by decide +kernel
theorem dX6_mould_52 : decode cX6_mould 52 = .ok (.iconst 1, 1) := by decide +kernel
theorem dX6_mould_53 : decode cX6_mould 53 = .ok (.iadd, 1) := by decide +kernel
theorem dX6_mould_54 : decode cX6_mould 54 = .ok (.putfield 97, 3) := by decide +kernel
theorem dX6_mould_57 : decode cX6_mould 57 = .ok (.aload_n 0, 1) := by decide +kernel
theorem dX6_mould_58 : decode cX6_mould 58 = .ok (.getfield 97, 3) := by decide +kernel
theorem dX6_mould_61 : decode cX6_mould 61 = .ok (.iconst 1, 1) := by decide +kernel
theorem dX6_mould_62 : decode cX6_mould 62 = .ok (.isub, 1) := by decide +kernel
theorem dX6_mould_63 : decode cX6_mould 63 = .ok (.ireturn, 1) := by decide +kernel
theorem dX6_paper_0 : decode cX6_paper 0 = .ok (.aload_n 0, 1) := by decide +kernel
theorem dX6_paper_1 : decode cX6_paper 1 = .ok (.iconst 0, 1) := by decide +kernel
theorem dX6_paper_2 : decode cX6_paper 2 = .ok (.putfield 61, 3) := by decide +kernel
theorem dX6_paper_5 : decode cX6_paper 5 = .ok (.aload_n 0, 1) := by decide +kernel
theorem dX6_paper_6 : decode cX6_paper 6 = .ok (.iload_n 1, 1) := by decide +kernel
theorem dX6_paper_7 : decode cX6_paper 7 = .ok (.invokevirtual 91, 3) := by decide +kernel
theorem dX6_paper_10 : decode cX6_paper 10 = .ok (.ifCond .eq 23, 3) := by decide +kernel
theorem dX6_paper_13 : decode cX6_paper 13 = .ok (.iload_n 2, 1) := by decide +kernel
theorem dX6_paper_14 : decode cX6_paper 14 = .ok (.bipush (-9), 2) := by decide +kernel
theorem dX6_paper_16 : decode cX6_paper 16 = .ok (.if_icmp .eq 20, 3) := by decide +kernel
theorem dX6_paper_19 : decode cX6_paper 19 = .ok (.iload_n 2, 1) := by decide +kernel
theorem dX6_paper_20 : decode cX6_paper 20 = .ok (.iconst 0, 1) := by decide +kernel
theorem dX6_paper_21 : decode cX6_paper 21 = .ok (.aload_n 0, 1) := by decide +kernel
theorem dX6_paper_22 : decode cX6_paper 22 = .ok (.getfield 97, 3) := by decide +kernel
theorem dX6_paper_25 : decode cX6_paper 25 = .ok (.iconst 1, 1) := by decide +kernel
theorem dX6_paper_26 : decode cX6_paper 26 = .ok (.isub, 1) := by decide +kernel
theorem dX6_paper_27 : decode cX6_paper 27 = .ok (.invokestatic 65, 3) := by decide +kernel
theorem dX6_paper_30 : decode cX6_paper 30 = .ok (.ifCond .ne 6, 3) := by decide +kernel
theorem dX6_paper_33 : decode cX6_paper 33 = .ok (.bipush (-2), 2) := by decide +kernel
theorem dX6_paper_35 : decode cX6_paper 35 = .ok (.ireturn, 1) := by decide +kernel
theorem dX6_paper_36 : decode cX6_paper 36 = .ok (.aload_n 0, 1) := by decide +kernel
theorem dX6_paper_37 : decode cX6_paper 37 = .ok (.getfield 34, 3) := by decide +kernel
theorem dX6_paper_40 : decode cX6_paper 40 = .ok (.iload_n 1, 1) := by decide +kernel
theorem dX6_paper_41 : decode cX6_paper 41 = .ok (.iaload, 1) := by decide +kernel
theorem dX6_paper_42 : decode cX6_paper 42 = .ok (.istore_n 3, 1) := by decide +kernel
theorem dX6_paper_43 : decode cX6_paper 43 = .ok (.aload_n 0, 1) := by decide +kernel
theorem dX6_paper_44 : decode cX6_paper 44 = .ok (.getfield 34, 3) := by decide +kernel
theorem dX6_paper_47 : decode cX6_paper 47 = .ok (.iload_n 1, 1) := by decide +kernel
theorem dX6_paper_48 : decode cX6_paper 48 = .ok (.iload_n 2, 1) := by decide +kernel
theorem dX6_paper_49 : decode cX6_paper 49 = .ok (.iastore, 1) := by decide +kernel
theorem dX6_paper_50 : decode cX6_paper 50 = .ok (.iload_n 3, 1) := by decide +kernel
theorem dX6_paper_51 : decode cX6_paper 51 = .ok (.ireturn, 1) := by decide +kernel
theorem dX6_imprint_0 : decode cX6_imprint 0 = .ok (.aload_n 0, 1) := by decide +kernel
theorem dX6_imprint_1 : decode cX6_imprint 1 = .ok (.iconst 0, 1) := by decide +kernel
theorem dX6_imprint_2 : decode cX6_imprint 2 = .ok (.putfield 61, 3) := by decide +kernel
theorem dX6_imprint_5 : decode cX6_imprint 5 = .ok (.aload_n 0, 1) := by decide +kernel
theorem dX6_imprint_6 : decode cX6_imprint 6 = .ok (.iload_n 1, 1) := by decide +kernel
theorem dX6_imprint_7 : decode cX6_imprint 7 = .ok (.invokevirtual 91, 3) := by decide +kernel
theorem dX6_imprint_10 : decode cX6_imprint 10 = .ok (.ifCond .eq 22, 3) := by decide +kernel
theorem dX6_imprint_13 : decode cX6_imprint 13 = .ok (.iload_n 2, 1) := by decide +kernel
theorem dX6_imprint_14 : decode cX6_imprint 14 = .ok (.bipush (-9), 2) := by decide +kernel
theorem dX6_imprint_16 : decode cX6_imprint 16 = .ok (.if_icmp .eq 19, 3) := by decide +kernel
theorem dX6_imprint_19 : decode cX6_imprint 19 = .ok (.iload_n 2, 1) := by decide +kernel
theorem dX6_imprint_20 : decode cX6_imprint 20 = .ok (.sipush 1500, 3) := by decide +kernel
theorem dX6_imprint_23 : decode cX6_imprint 23 = .ok (.sipush 1900, 3) := by decide +kernel
theorem dX6_imprint_26 : decode cX6_imprint 26 = .ok (.invokestatic 65, 3) := by decide +kernel
theorem dX6_imprint_29 : decode cX6_imprint 29 = .ok (.ifCond .ne 6, 3) := by decide +kernel
theorem dX6_imprint_32 : decode cX6_imprint 32 = .ok (.bipush (-2), 2) := by decide +kernel
theorem dX6_imprint_34 : decode cX6_imprint 34 = .ok (.ireturn, 1) := by decide +kernel
theorem dX6_imprint_35 : decode cX6_imprint 35 = .ok (.aload_n 0, 1) := by decide +kernel
theorem dX6_imprint_36 : decode cX6_imprint 36 = .ok (.getfield 37, 3) := by decide +kernel
theorem dX6_imprint_39 : decode cX6_imprint 39 = .ok (.iload_n 1, 1) := by decide +kernel
theorem dX6_imprint_40 : decode cX6_imprint 40 = .ok (.iaload, 1) := by decide +kernel
theorem dX6_imprint_41 : decode cX6_imprint 41 = .ok (.istore_n 3, 1) := by decide +kernel
theorem dX6_imprint_42 : decode cX6_imprint 42 = .ok (.aload_n 0, 1) := by decide +kernel
theorem dX6_imprint_43 : decode cX6_imprint 43 = .ok (.getfield 37, 3) := by decide +kernel
theorem dX6_imprint_46 : decode cX6_imprint 46 = .ok (.iload_n 1, 1) := by decide +kernel
theorem dX6_imprint_47 : decode cX6_imprint 47 = .ok (.iload_n 2, 1) := by decide +kernel
theorem dX6_imprint_48 : decode cX6_imprint 48 = .ok (.iastore, 1) := by decide +kernel
theorem dX6_imprint_49 : decode cX6_imprint 49 = .ok (.iload_n 3, 1) := by decide +kernel
theorem dX6_imprint_50 : decode cX6_imprint 50 = .ok (.ireturn, 1) := by decide +kernel
theorem dX6_span_0 : decode cX6_span 0 = .ok (.aload_n 0, 1) := by decide +kernel
theorem dX6_span_1 : decode cX6_span 1 = .ok (.iconst 0, 1) := by decide +kernel
theorem dX6_span_2 : decode cX6_span 2 = .ok (.putfield 61, 3) := by decide +kernel
theorem dX6_span_5 : decode cX6_span 5 = .ok (.aload_n 0, 1) := by decide +kernel
theorem dX6_span_6 : decode cX6_span 6 = .ok (.iload_n 1, 1) := by decide +kernel
theorem dX6_span_7 : decode cX6_span 7 = .ok (.invokevirtual 91, 3) := by decide +kernel
theorem dX6_span_10 : decode cX6_span 10 = .ok (.ifCond .eq 12, 3) := by decide +kernel
theorem dX6_span_13 : decode cX6_span 13 = .ok (.iload_n 2, 1) := by decide +kernel
theorem dX6_span_14 : decode cX6_span 14 = .ok (.iconst 0, 1) := by decide +kernel
theorem dX6_span_15 : decode cX6_span 15 = .ok (.iconst 1, 1) := by decide +kernel
theorem dX6_span_16 : decode cX6_span 16 = .ok (.invokestatic 65, 3) := by decide +kernel
theorem dX6_span_19 : decode cX6_span 19 = .ok (.ifCond .ne 5, 3) := by decide +kernel
theorem dX6_span_22 : decode cX6_span 22 = .ok (.iconst (-1), 1) := by decide +kernel
theorem dX6_span_23 : decode cX6_span 23 = .ok (.ireturn, 1) := by decide +kernel
theorem dX6_span_24 : decode cX6_span 24 = .ok (.bipush (-9), 2) := by decide +kernel
theorem dX6_span_26 : decode cX6_span 26 = .ok (.istore_n 3, 1) := by decide +kernel
theorem dX6_span_27 : decode cX6_span 27 = .ok (.bipush (-9), 2) := by decide +kernel
theorem dX6_span_29 : decode cX6_span 29 = .ok (.istore 4, 2) := by decide +kernel
theorem dX6_span_31 : decode cX6_span 31 = .ok (.sipush 1500, 3) := by decide +kernel
theorem dX6_span_34 : decode cX6_span 34 = .ok (.istore 5, 2) := by decide +kernel
theorem dX6_span_36 : decode cX6_span 36 = .ok (.iload 5, 2) := by decide +kernel
theorem dX6_span_38 : decode cX6_span 38 = .ok (.sipush 1900, 3) := by decide +kernel
theorem dX6_span_41 : decode cX6_span 41 = .ok (.if_icmp .gt 191, 3) := by decide +kernel
theorem dX6_span_44 : decode cX6_span 44 = .ok (.iconst 0, 1) := by decide +kernel
theorem dX6_span_45 : decode cX6_span 45 = .ok (.istore 6, 2) := by decide +kernel
theorem dX6_span_47 : decode cX6_span 47 = .ok (.iconst 0, 1) := by decide +kernel
theorem dX6_span_48 : decode cX6_span 48 = .ok (.istore 7, 2) := by decide +kernel
theorem dX6_span_50 : decode cX6_span 50 = .ok (.iload 7, 2) := by decide +kernel
theorem dX6_span_52 : decode cX6_span 52 = .ok (.aload_n 0, 1) := by decide +kernel
theorem dX6_span_53 : decode cX6_span 53 = .ok (.getfield 73, 3) := by decide +kernel
theorem dX6_span_56 : decode cX6_span 56 = .ok (.if_icmp .ge 55, 3) := by decide +kernel
theorem dX6_span_59 : decode cX6_span 59 = .ok (.iload 6, 2) := by decide +kernel
theorem dX6_span_61 : decode cX6_span 61 = .ok (.aload_n 0, 1) := by decide +kernel
theorem dX6_span_62 : decode cX6_span 62 = .ok (.iload_n 1, 1) := by decide +kernel
theorem dX6_span_63 : decode cX6_span 63 = .ok (.invokevirtual 94, 3) := by decide +kernel
theorem dX6_span_66 : decode cX6_span 66 = .ok (.iload 7, 2) := by decide +kernel
theorem dX6_span_68 : decode cX6_span 68 = .ok (.ishr, 1) := by decide +kernel
theorem dX6_span_69 : decode cX6_span 69 = .ok (.iconst 1, 1) := by decide +kernel
theorem dX6_span_70 : decode cX6_span 70 = .ok (.iand, 1) := by decide +kernel
theorem dX6_span_71 : decode cX6_span 71 = .ok (.iconst 1, 1) := by decide +kernel
theorem dX6_span_72 : decode cX6_span 72 = .ok (.if_icmp .ne 29, 3) := by decide +kernel
theorem dX6_span_75 : decode cX6_span 75 = .ok (.iload 5, 2) := by decide +kernel
theorem dX6_span_77 : decode cX6_span 77 = .ok (.aload_n 0, 1) := by decide +kernel
theorem dX6_span_78 : decode cX6_span 78 = .ok (.getfield 13, 3) := by decide +kernel
theorem dX6_span_81 : decode cX6_span 81 = .ok (.iload 7, 2) := by decide +kernel
theorem dX6_span_83 : decode cX6_span 83 = .ok (.iaload, 1) := by decide +kernel
theorem dX6_span_84 : decode cX6_span 84 = .ok (.aload_n 0, 1) := by decide +kernel
theorem dX6_span_85 : decode cX6_span 85 = .ok (.getfield 16, 3) := by decide +kernel
theorem dX6_span_88 : decode cX6_span 88 = .ok (.iload 7, 2) := by decide +kernel
theorem dX6_span_90 : decode cX6_span 90 = .ok (.iaload, 1) := by decide +kernel
theorem dX6_span_91 : decode cX6_span 91 = .ok (.invokestatic 65, 3) := by decide +kernel
theorem dX6_span_94 : decode cX6_span 94 = .ok (.ifCond .eq 7, 3) := by decide +kernel
theorem dX6_span_97 : decode cX6_span 97 = .ok (.iconst 1, 1) := by decide +kernel
theorem dX6_span_98 : decode cX6_span 98 = .ok (.goto 4, 3) := by decide +kernel
theorem dX6_span_101 : decode cX6_span 101 = .ok (.iconst 0, 1) := by decide +kernel
theorem dX6_span_102 : decode cX6_span 102 = .ok (.ior, 1) := by decide +kernel
theorem dX6_span_103 : decode cX6_span 103 = .ok (.istore 6, 2) := by decide +kernel
theorem dX6_span_105 : decode cX6_span 105 = .ok (.iinc 7 1, 3) := by decide +kernel
theorem dX6_span_108 : decode cX6_span 108 = .ok (.goto (-58), 3) := by decide +kernel
theorem dX6_span_111 : decode cX6_span 111 = .ok (.iload 6, 2) := by decide +kernel
theorem dX6_span_113 : decode cX6_span 113 = .ok (.aload_n 0, 1) := by decide +kernel
theorem dX6_span_114 : decode cX6_span 114 = .ok (.getfield 34, 3) := by decide +kernel
theorem dX6_span_117 : decode cX6_span 117 = .ok (.iload_n 1, 1) := by decide +kernel
theorem dX6_span_118 : decode cX6_span 118 = .ok (.iaload, 1) := by decide +kernel
theorem dX6_span_119 : decode cX6_span 119 = .ok (.bipush (-9), 2) := by decide +kernel
theorem dX6_span_121 : decode cX6_span 121 = .ok (.if_icmp .eq 33, 3) := by decide +kernel
theorem dX6_span_124 : decode cX6_span 124 = .ok (.iload 5, 2) := by decide +kernel
theorem dX6_span_126 : decode cX6_span 126 = .ok (.aload_n 0, 1) := by decide +kernel
theorem dX6_span_127 : decode cX6_span 127 = .ok (.getfield 40, 3) := by decide +kernel
theorem dX6_span_130 : decode cX6_span 130 = .ok (.aload_n 0, 1) := by decide +kernel
theorem dX6_span_131 : decode cX6_span 131 = .ok (.getfield 34, 3) := by decide +kernel
theorem dX6_span_134 : decode cX6_span 134 = .ok (.iload_n 1, 1) := by decide +kernel
theorem dX6_span_135 : decode cX6_span 135 = .ok (.iaload, 1) := by decide +kernel
theorem dX6_span_136 : decode cX6_span 136 = .ok (.iaload, 1) := by decide +kernel
theorem dX6_span_137 : decode cX6_span 137 = .ok (.aload_n 0, 1) := by decide +kernel
theorem dX6_span_138 : decode cX6_span 138 = .ok (.getfield 43, 3) := by decide +kernel
theorem dX6_span_141 : decode cX6_span 141 = .ok (.aload_n 0, 1) := by decide +kernel
theorem dX6_span_142 : decode cX6_span 142 = .ok (.getfield 34, 3) := by decide +kernel
theorem dX6_span_145 : decode cX6_span 145 = .ok (.iload_n 1, 1) := by decide +kernel
theorem dX6_span_146 : decode cX6_span 146 = .ok (.iaload, 1) := by decide +kernel
theorem dX6_span_147 : decode cX6_span 147 = .ok (.iaload, 1) := by decide +kernel
theorem dX6_span_148 : decode cX6_span 148 = .ok (.invokestatic 65, 3) := by decide +kernel
theorem dX6_span_151 : decode cX6_span 151 = .ok (.ifCond .eq 7, 3) := by decide +kernel
theorem dX6_span_154 : decode cX6_span 154 = .ok (.iconst 1, 1) := by decide +kernel
theorem dX6_span_155 : decode cX6_span 155 = .ok (.goto 4, 3) := by decide +kernel
theorem dX6_span_158 : decode cX6_span 158 = .ok (.iconst 0, 1) := by decide +kernel
theorem dX6_span_159 : decode cX6_span 159 = .ok (.iand, 1) := by decide +kernel
theorem dX6_span_160 : decode cX6_span 160 = .ok (.istore 6, 2) := by decide +kernel
theorem dX6_span_162 : decode cX6_span 162 = .ok (.iload 6, 2) := by decide +kernel
theorem dX6_span_164 : decode cX6_span 164 = .ok (.aload_n 0, 1) := by decide +kernel
theorem dX6_span_165 : decode cX6_span 165 = .ok (.getfield 37, 3) := by decide +kernel
theorem dX6_span_168 : decode cX6_span 168 = .ok (.iload_n 1, 1) := by decide +kernel
theorem dX6_span_169 : decode cX6_span 169 = .ok (.iaload, 1) := by decide +kernel
theorem dX6_span_170 : decode cX6_span 170 = .ok (.bipush (-9), 2) := by decide +kernel
theorem dX6_span_172 : decode cX6_span 172 = .ok (.if_icmp .eq 14, 3) := by decide +kernel
theorem dX6_span_175 : decode cX6_span 175 = .ok (.iload 5, 2) := by decide +kernel
theorem dX6_span_177 : decode cX6_span 177 = .ok (.aload_n 0, 1) := by decide +kernel
theorem dX6_span_178 : decode cX6_span 178 = .ok (.getfield 37, 3) := by decide +kernel
theorem dX6_span_181 : decode cX6_span 181 = .ok (.iload_n 1, 1) := by decide +kernel
theorem dX6_span_182 : decode cX6_span 182 = .ok (.iaload, 1) := by decide +kernel
theorem dX6_span_183 : decode cX6_span 183 = .ok (.if_icmp .lt 7, 3) := by decide +kernel
theorem dX6_span_186 : decode cX6_span 186 = .ok (.iconst 1, 1) := by decide +kernel
theorem dX6_span_187 : decode cX6_span 187 = .ok (.goto 4, 3) := by decide +kernel
theorem dX6_span_190 : decode cX6_span 190 = .ok (.iconst 0, 1) := by decide +kernel
theorem dX6_span_191 : decode cX6_span 191 = .ok (.iand, 1) := by decide +kernel
theorem dX6_span_192 : decode cX6_span 192 = .ok (.istore 6, 2) := by decide +kernel
theorem dX6_span_194 : decode cX6_span 194 = .ok (.iload 6, 2) := by decide +kernel
theorem dX6_span_196 : decode cX6_span 196 = .ok (.ifCond .eq 14, 3) := by decide +kernel
theorem dX6_span_199 : decode cX6_span 199 = .ok (.iload_n 3, 1) := by decide +kernel
theorem dX6_span_200 : decode cX6_span 200 = .ok (.bipush (-9), 2) := by decide +kernel
theorem dX6_span_202 : decode cX6_span 202 = .ok (.if_icmp .ne 8, 3) := by decide +kernel
theorem dX6_span_205 : decode cX6_span 205 = .ok (.iload 5, 2) := by decide +kernel
theorem dX6_span_207 : decode cX6_span 207 = .ok (.goto 4, 3) := by decide +kernel
theorem dX6_span_210 : decode cX6_span 210 = .ok (.iload_n 3, 1) := by decide +kernel
theorem dX6_span_211 : decode cX6_span 211 = .ok (.istore_n 3, 1) := by decide +kernel
theorem dX6_span_212 : decode cX6_span 212 = .ok (.iload 6, 2) := by decide +kernel
theorem dX6_span_214 : decode cX6_span 214 = .ok (.ifCond .eq 8, 3) := by decide +kernel
theorem dX6_span_217 : decode cX6_span 217 = .ok (.iload 5, 2) := by decide +kernel
theorem dX6_span_219 : decode cX6_span 219 = .ok (.goto 5, 3) := by decide +kernel
theorem dX6_span_222 : decode cX6_span 222 = .ok (.iload 4, 2) := by decide +kernel
theorem dX6_span_224 : decode cX6_span 224 = .ok (.istore 4, 2) := by decide +kernel
theorem dX6_span_226 : decode cX6_span 226 = .ok (.iinc 5 1, 3) := by decide +kernel
theorem dX6_span_229 : decode cX6_span 229 = .ok (.goto (-193), 3) := by decide +kernel
theorem dX6_span_232 : decode cX6_span 232 = .ok (.iload_n 2, 1) := by decide +kernel
theorem dX6_span_233 : decode cX6_span 233 = .ok (.ifCond .ne 7, 3) := by decide +kernel
theorem dX6_span_236 : decode cX6_span 236 = .ok (.iload_n 3, 1) := by decide +kernel
theorem dX6_span_237 : decode cX6_span 237 = .ok (.goto 5, 3) := by decide +kernel
theorem dX6_span_240 : decode cX6_span 240 = .ok (.iload 4, 2) := by decide +kernel
theorem dX6_span_242 : decode cX6_span 242 = .ok (.ireturn, 1) := by decide +kernel
theorem dX6_price_0 : decode cX6_price 0 = .ok (.aload_n 0, 1) := by decide +kernel
theorem dX6_price_1 : decode cX6_price 1 = .ok (.iconst 0, 1) := by decide +kernel
theorem dX6_price_2 : decode cX6_price 2 = .ok (.putfield 61, 3) := by decide +kernel
theorem dX6_price_5 : decode cX6_price 5 = .ok (.iload_n 1, 1) := by decide +kernel
theorem dX6_price_6 : decode cX6_price 6 = .ok (.iconst 0, 1) := by decide +kernel
theorem dX6_price_7 : decode cX6_price 7 = .ok (.iconst 2, 1) := by decide +kernel
theorem dX6_price_8 : decode cX6_price 8 = .ok (.invokestatic 65, 3) := by decide +kernel
theorem dX6_price_11 : decode cX6_price 11 = .ok (.ifCond .eq 11, 3) := by decide +kernel
theorem dX6_price_14 : decode cX6_price 14 = .ok (.aload_n 0, 1) := by decide +kernel
theorem dX6_price_15 : decode cX6_price 15 = .ok (.iload_n 2, 1) := by decide +kernel
theorem dX6_price_16 : decode cX6_price 16 = .ok (.invokevirtual 91, 3) := by decide +kernel
theorem dX6_price_19 : decode cX6_price 19 = .ok (.ifCond .ne 5, 3) := by decide +kernel
theorem dX6_price_22 : decode cX6_price 22 = .ok (.iconst (-1), 1) := by decide +kernel
theorem dX6_price_23 : decode cX6_price 23 = .ok (.ireturn, 1) := by decide +kernel
theorem dX6_price_24 : decode cX6_price 24 = .ok (.aload_n 0, 1) := by decide +kernel
theorem dX6_price_25 : decode cX6_price 25 = .ok (.dup, 1) := by decide +kernel
theorem dX6_price_26 : decode cX6_price 26 = .ok (.getfield 100, 3) := by decide +kernel
theorem dX6_price_29 : decode cX6_price 29 = .ok (.iload_n 1, 1) := by decide +kernel
theorem dX6_price_30 : decode cX6_price 30 = .ok (.ifCond .ne 7, 3) := by decide +kernel
theorem dX6_price_33 : decode cX6_price 33 = .ok (.lconst 1, 1) := by decide +kernel
theorem dX6_price_34 : decode cX6_price 34 = .ok (.goto 17, 3) := by decide +kernel
theorem dX6_price_37 : decode cX6_price 37 = .ok (.iload_n 1, 1) := by decide +kernel
theorem dX6_price_38 : decode cX6_price 38 = .ok (.iconst 1, 1) := by decide +kernel
theorem dX6_price_39 : decode cX6_price 39 = .ok (.if_icmp .ne 9, 3) := by decide +kernel
theorem dX6_price_42 : decode cX6_price 42 = .ok (.ldc2_w 104, 3) := by decide +kernel
theorem dX6_price_45 : decode cX6_price 45 = .ok (.goto 6, 3) := by decide +kernel
theorem dX6_price_48 : decode cX6_price 48 = .ok (.ldc2_w 106, 3) := by decide +kernel
theorem dX6_price_51 : decode cX6_price 51 = .ok (.ladd, 1) := by decide +kernel
theorem dX6_price_52 : decode cX6_price 52 = .ok (.putfield 100, 3) := by decide +kernel
theorem dX6_price_55 : decode cX6_price 55 = .ok (.aload_n 0, 1) := by decide +kernel
theorem dX6_price_56 : decode cX6_price 56 = .ok (.iload_n 2, 1) := by decide +kernel
theorem dX6_price_57 : decode cX6_price 57 = .ok (.invokevirtual 94, 3) := by decide +kernel
theorem dX6_price_60 : decode cX6_price 60 = .ok (.invokestatic 76, 3) := by decide +kernel
theorem dX6_price_63 : decode cX6_price 63 = .ok (.istore_n 3, 1) := by decide +kernel
theorem dX6_price_64 : decode cX6_price 64 = .ok (.iload_n 3, 1) := by decide +kernel
theorem dX6_price_65 : decode cX6_price 65 = .ok (.ifCond .ne 7, 3) := by decide +kernel
theorem dX6_price_68 : decode cX6_price 68 = .ok (.iconst 0, 1) := by decide +kernel
theorem dX6_price_69 : decode cX6_price 69 = .ok (.goto 11, 3) := by decide +kernel
theorem dX6_price_72 : decode cX6_price 72 = .ok (.aload_n 0, 1) := by decide +kernel
theorem dX6_price_73 : decode cX6_price 73 = .ok (.getfield 28, 3) := by decide +kernel
theorem dX6_price_76 : decode cX6_price 76 = .ok (.iload_n 2, 1) := by decide +kernel
theorem dX6_price_77 : decode cX6_price 77 = .ok (.iaload, 1) := by decide +kernel
theorem dX6_price_78 : decode cX6_price 78 = .ok (.iload_n 3, 1) := by decide +kernel
theorem dX6_price_79 : decode cX6_price 79 = .ok (.idiv, 1) := by decide +kernel
theorem dX6_price_80 : decode cX6_price 80 = .ok (.istore 4, 2) := by decide +kernel
theorem dX6_price_82 : decode cX6_price 82 = .ok (.iload_n 1, 1) := by decide +kernel
theorem dX6_price_83 : decode cX6_price 83 = .ok (.ifCond .le 49, 3) := by decide +kernel
theorem dX6_price_86 : decode cX6_price 86 = .ok (.aload_n 0, 1) := by decide +kernel
theorem dX6_price_87 : decode cX6_price 87 = .ok (.getfield 31, 3) := by decide +kernel
theorem dX6_price_90 : decode cX6_price 90 = .ok (.iload_n 2, 1) := by decide +kernel
theorem dX6_price_91 : decode cX6_price 91 = .ok (.iaload, 1) := by decide +kernel
theorem dX6_price_92 : decode cX6_price 92 = .ok (.iconst 1, 1) := by decide +kernel
theorem dX6_price_93 : decode cX6_price 93 = .ok (.if_icmp .ne 13, 3) := by decide +kernel
theorem dX6_price_96 : decode cX6_price 96 = .ok (.iload 4, 2) := by decide +kernel
theorem dX6_price_98 : decode cX6_price 98 = .ok (.iload 4, 2) := by decide +kernel
theorem dX6_price_100 : decode cX6_price 100 = .ok (.iconst 2, 1) := by decide +kernel
theorem dX6_price_101 : decode cX6_price 101 = .ok (.idiv, 1) := by decide +kernel
theorem dX6_price_102 : decode cX6_price 102 = .ok (.iadd, 1) := by decide +kernel
theorem dX6_price_103 : decode cX6_price 103 = .ok (.goto 27, 3) := by decide +kernel
theorem dX6_price_106 : decode cX6_price 106 = .ok (.aload_n 0, 1) := by decide +kernel
theorem dX6_price_107 : decode cX6_price 107 = .ok (.getfield 31, 3) := by decide +kernel
theorem dX6_price_110 : decode cX6_price 110 = .ok (.iload_n 2, 1) := by decide +kernel
theorem dX6_price_111 : decode cX6_price 111 = .ok (.iaload, 1) := by decide +kernel
theorem dX6_price_112 : decode cX6_price 112 = .ok (.iconst 2, 1) := by decide +kernel
theorem dX6_price_113 : decode cX6_price 113 = .ok (.if_icmp .ne 15, 3) := by decide +kernel
theorem dX6_price_116 : decode cX6_price 116 = .ok (.iload 4, 2) := by decide +kernel
theorem dX6_price_118 : decode cX6_price 118 = .ok (.iload 4, 2) := by decide +kernel
theorem dX6_price_120 : decode cX6_price 120 = .ok (.iconst 3, 1) := by decide +kernel
theorem dX6_price_121 : decode cX6_price 121 = .ok (.iadd, 1) := by decide +kernel
theorem dX6_price_122 : decode cX6_price 122 = .ok (.iconst 4, 1) := by decide +kernel
theorem dX6_price_123 : decode cX6_price 123 = .ok (.idiv, 1) := by decide +kernel
theorem dX6_price_124 : decode cX6_price 124 = .ok (.isub, 1) := by decide +kernel
theorem dX6_price_125 : decode cX6_price 125 = .ok (.goto 5, 3) := by decide +kernel
theorem dX6_price_128 : decode cX6_price 128 = .ok (.iload 4, 2) := by decide +kernel
theorem dX6_price_130 : decode cX6_price 130 = .ok (.istore 4, 2) := by decide +kernel
theorem dX6_price_132 : decode cX6_price 132 = .ok (.iload_n 1, 1) := by decide +kernel
theorem dX6_price_133 : decode cX6_price 133 = .ok (.iconst 1, 1) := by decide +kernel
theorem dX6_price_134 : decode cX6_price 134 = .ok (.if_icmp .le 29, 3) := by decide +kernel
theorem dX6_price_137 : decode cX6_price 137 = .ok (.iload 4, 2) := by decide +kernel
theorem dX6_price_139 : decode cX6_price 139 = .ok (.iconst 3, 1) := by decide +kernel
theorem dX6_price_140 : decode cX6_price 140 = .ok (.aload_n 0, 1) := by decide +kernel
theorem dX6_price_141 : decode cX6_price 141 = .ok (.getfield 52, 3) := by decide +kernel
theorem dX6_price_144 : decode cX6_price 144 = .ok (.iload_n 2, 1) := by decide +kernel
theorem dX6_price_145 : decode cX6_price 145 = .ok (.iaload, 1) := by decide +kernel
theorem dX6_price_146 : decode cX6_price 146 = .ok (.imul, 1) := by decide +kernel
theorem dX6_price_147 : decode cX6_price 147 = .ok (.isub, 1) := by decide +kernel
theorem dX6_price_148 : decode cX6_price 148 = .ok (.istore 4, 2) := by decide +kernel
theorem dX6_price_150 : decode cX6_price 150 = .ok (.iload 4, 2) := by decide +kernel
theorem dX6_price_152 : decode cX6_price 152 = .ok (.ifCond .ge 7, 3) := by decide +kernel
theorem dX6_price_155 : decode cX6_price 155 = .ok (.iconst 0, 1) := by decide +kernel
theorem dX6_price_156 : decode cX6_price 156 = .ok (.goto 5, 3) := by decide +kernel
theorem dX6_price_159 : decode cX6_price 159 = .ok (.iload 4, 2) := by decide +kernel
theorem dX6_price_161 : decode cX6_price 161 = .ok (.istore 4, 2) := by decide +kernel
theorem dX6_price_163 : decode cX6_price 163 = .ok (.iload 4, 2) := by decide +kernel
theorem dX6_price_165 : decode cX6_price 165 = .ok (.ireturn, 1) := by decide +kernel
theorem dX6_isMap_0 : decode cX6_isMap 0 = .ok (.iload_n 1, 1) := by decide +kernel
theorem dX6_isMap_1 : decode cX6_isMap 1 = .ok (.iconst 0, 1) := by decide +kernel
theorem dX6_isMap_2 : decode cX6_isMap 2 = .ok (.aload_n 0, 1) := by decide +kernel
theorem dX6_isMap_3 : decode cX6_isMap 3 = .ok (.getfield 108, 3) := by decide +kernel
theorem dX6_isMap_6 : decode cX6_isMap 6 = .ok (.iconst 1, 1) := by decide +kernel
theorem dX6_isMap_7 : decode cX6_isMap 7 = .ok (.isub, 1) := by decide +kernel
theorem dX6_isMap_8 : decode cX6_isMap 8 = .ok (.invokestatic 65, 3) := by decide +kernel
theorem dX6_isMap_11 : decode cX6_isMap 11 = .ok (.ireturn, 1) := by decide +kernel
theorem dX6_map_0 : decode cX6_map 0 = .ok (.aload_n 0, 1) := by decide +kernel
theorem dX6_map_1 : decode cX6_map 1 = .ok (.iconst 0, 1) := by decide +kernel
theorem dX6_map_2 : decode cX6_map 2 = .ok (.putfield 61, 3) := by decide +kernel
theorem dX6_map_5 : decode cX6_map 5 = .ok (.iload_n 1, 1) := by decide +kernel
theorem dX6_map_6 : decode cX6_map 6 = .ok (.sipush 1500, 3) := by decide +kernel
theorem dX6_map_9 : decode cX6_map 9 = .ok (.sipush 1900, 3) := by decide +kernel
theorem dX6_map_12 : decode cX6_map 12 = .ok (.invokestatic 65, 3) := by decide +kernel
theorem dX6_map_15 : decode cX6_map 15 = .ok (.ifCond .eq 14, 3) := by decide +kernel
theorem dX6_map_18 : decode cX6_map 18 = .ok (.iload_n 2, 1) := by decide +kernel
theorem dX6_map_19 : decode cX6_map 19 = .ok (.iconst 0, 1) := by decide +kernel
theorem dX6_map_20 : decode cX6_map 20 = .ok (.sipush 4095, 3) := by decide +kernel
theorem dX6_map_23 : decode cX6_map 23 = .ok (.invokestatic 65, 3) := by decide +kernel
theorem dX6_map_26 : decode cX6_map 26 = .ok (.ifCond .ne 5, 3) := by decide +kernel
theorem dX6_map_29 : decode cX6_map 29 = .ok (.iconst (-1), 1) := by decide +kernel
theorem dX6_map_30 : decode cX6_map 30 = .ok (.ireturn, 1) := by decide +kernel
theorem dX6_map_31 : decode cX6_map 31 = .ok (.aload_n 0, 1) := by decide +kernel
theorem dX6_map_32 : decode cX6_map 32 = .ok (.getfield 108, 3) := by decide +kernel
theorem dX6_map_35 : decode cX6_map 35 = .ok (.bipush 8, 2) := by decide +kernel
theorem dX6_map_37 : decode cX6_map 37 = .ok (.if_icmp .ne 6, 3) := by decide +kernel
theorem dX6_map_40 : decode cX6_map 40 = .ok (.bipush (-3), 2) := by decide +kernel
theorem dX6_map_42 : decode cX6_map 42 = .ok (.ireturn, 1) := by decide +kernel
theorem dX6_map_43 : decode cX6_map 43 = .ok (.aload_n 0, 1) := by decide +kernel
theorem dX6_map_44 : decode cX6_map 44 = .ok (.getfield 46, 3) := by decide +kernel
theorem dX6_map_47 : decode cX6_map 47 = .ok (.aload_n 0, 1) := by decide +kernel
theorem dX6_map_48 : decode cX6_map 48 = .ok (.getfield 108, 3) := by decide +kernel
theorem dX6_map_51 : decode cX6_map 51 = .ok (.iload_n 1, 1) := by decide +kernel
theorem dX6_map_52 : decode cX6_map 52 = .ok (.iastore, 1) := by decide +kernel
theorem dX6_map_53 : decode cX6_map 53 = .ok (.aload_n 0, 1) := by decide +kernel
theorem dX6_map_54 : decode cX6_map 54 = .ok (.getfield 49, 3) := by decide +kernel
theorem dX6_map_57 : decode cX6_map 57 = .ok (.aload_n 0, 1) := by decide +kernel
theorem dX6_map_58 : decode cX6_map 58 = .ok (.getfield 108, 3) := by decide +kernel
theorem dX6_map_61 : decode cX6_map 61 = .ok (.iload_n 2, 1) := by decide +kernel
theorem dX6_map_62 : decode cX6_map 62 = .ok (.iastore, 1) := by decide +kernel
theorem dX6_map_63 : decode cX6_map 63 = .ok (.aload_n 0, 1) := by decide +kernel
theorem dX6_map_64 : decode cX6_map 64 = .ok (.dup, 1) := by decide +kernel
theorem dX6_map_65 : decode cX6_map 65 = .ok (.getfield 108, 3) := by decide +kernel
theorem dX6_map_68 : decode cX6_map 68 = .ok (.iconst 1, 1) := by decide +kernel
theorem dX6_map_69 : decode cX6_map 69 = .ok (.iadd, 1) := by decide +kernel
theorem dX6_map_70 : decode cX6_map 70 = .ok (.putfield 108, 3) := by decide +kernel
theorem dX6_map_73 : decode cX6_map 73 = .ok (.aload_n 0, 1) := by decide +kernel
theorem dX6_map_74 : decode cX6_map 74 = .ok (.getfield 108, 3) := by decide +kernel
theorem dX6_map_77 : decode cX6_map 77 = .ok (.iconst 1, 1) := by decide +kernel
theorem dX6_map_78 : decode cX6_map 78 = .ok (.isub, 1) := by decide +kernel
theorem dX6_map_79 : decode cX6_map 79 = .ok (.ireturn, 1) := by decide +kernel
theorem dX6_costOf_0 : decode cX6_costOf 0 = .ok (.iload_n 2, 1) := by decide +kernel
theorem dX6_costOf_1 : decode cX6_costOf 1 = .ok (.bipush (-9), 2) := by decide +kernel
theorem dX6_costOf_3 : decode cX6_costOf 3 = .ok (.if_icmp .ne 20, 3) := by decide +kernel
theorem dX6_costOf_6 : decode cX6_costOf 6 = .ok (.aload_n 0, 1) := by decide +kernel
theorem dX6_costOf_7 : decode cX6_costOf 7 = .ok (.getfield 49, 3) := by decide +kernel
theorem dX6_costOf_10 : decode cX6_costOf 10 = .ok (.iload_n 1, 1) := by decide +kernel
theorem dX6_costOf_11 : decode cX6_costOf 11 = .ok (.iaload, 1) := by decide +kernel
theorem dX6_costOf_12 : decode cX6_costOf 12 = .ok (.invokestatic 76, 3) := by decide +kernel
theorem dX6_costOf_15 : decode cX6_costOf 15 = .ok (.aload_n 0, 1) := by decide +kernel
theorem dX6_costOf_16 : decode cX6_costOf 16 = .ok (.getfield 19, 3) := by decide +kernel
theorem dX6_costOf_19 : decode cX6_costOf 19 = .ok (.iconst 4, 1) := by decide +kernel
theorem dX6_costOf_20 : decode cX6_costOf 20 = .ok (.iaload, 1) := by decide +kernel
theorem dX6_costOf_21 : decode cX6_costOf 21 = .ok (.iadd, 1) := by decide +kernel
theorem dX6_costOf_22 : decode cX6_costOf 22 = .ok (.ireturn, 1) := by decide +kernel
theorem dX6_costOf_23 : decode cX6_costOf 23 = .ok (.aload_n 0, 1) := by decide +kernel
theorem dX6_costOf_24 : decode cX6_costOf 24 = .ok (.getfield 49, 3) := by decide +kernel
theorem dX6_costOf_27 : decode cX6_costOf 27 = .ok (.iload_n 1, 1) := by decide +kernel
theorem dX6_costOf_28 : decode cX6_costOf 28 = .ok (.iaload, 1) := by decide +kernel
theorem dX6_costOf_29 : decode cX6_costOf 29 = .ok (.aload_n 0, 1) := by decide +kernel
theorem dX6_costOf_30 : decode cX6_costOf 30 = .ok (.getfield 49, 3) := by decide +kernel
theorem dX6_costOf_33 : decode cX6_costOf 33 = .ok (.iload_n 2, 1) := by decide +kernel
theorem dX6_costOf_34 : decode cX6_costOf 34 = .ok (.iaload, 1) := by decide +kernel
theorem dX6_costOf_35 : decode cX6_costOf 35 = .ok (.iconst (-1), 1) := by decide +kernel
theorem dX6_costOf_36 : decode cX6_costOf 36 = .ok (.ixor, 1) := by decide +kernel
theorem dX6_costOf_37 : decode cX6_costOf 37 = .ok (.iand, 1) := by decide +kernel
theorem dX6_costOf_38 : decode cX6_costOf 38 = .ok (.invokestatic 76, 3) := by decide +kernel
theorem dX6_costOf_41 : decode cX6_costOf 41 = .ok (.aload_n 0, 1) := by decide +kernel
theorem dX6_costOf_42 : decode cX6_costOf 42 = .ok (.getfield 19, 3) := by decide +kernel
theorem dX6_costOf_45 : decode cX6_costOf 45 = .ok (.iconst 3, 1) := by decide +kernel
theorem dX6_costOf_46 : decode cX6_costOf 46 = .ok (.iaload, 1) := by decide +kernel
theorem dX6_costOf_47 : decode cX6_costOf 47 = .ok (.aload_n 0, 1) := by decide +kernel
theorem dX6_costOf_48 : decode cX6_costOf 48 = .ok (.getfield 49, 3) := by decide +kernel
theorem dX6_costOf_51 : decode cX6_costOf 51 = .ok (.iload_n 2, 1) := by decide +kernel
theorem dX6_costOf_52 : decode cX6_costOf 52 = .ok (.iaload, 1) := by decide +kernel
theorem dX6_costOf_53 : decode cX6_costOf 53 = .ok (.aload_n 0, 1) := by decide +kernel
theorem dX6_costOf_54 : decode cX6_costOf 54 = .ok (.getfield 49, 3) := by decide +kernel
theorem dX6_costOf_57 : decode cX6_costOf 57 = .ok (.iload_n 1, 1) := by decide +kernel
theorem dX6_costOf_58 : decode cX6_costOf 58 = .ok (.iaload, 1) := by decide +kernel
theorem dX6_costOf_59 : decode cX6_costOf 59 = .ok (.iconst (-1), 1) := by decide +kernel
theorem dX6_costOf_60 : decode cX6_costOf 60 = .ok (.ixor, 1) := by decide +kernel
theorem dX6_costOf_61 : decode cX6_costOf 61 = .ok (.iand, 1) := by decide +kernel
theorem dX6_costOf_62 : decode cX6_costOf 62 = .ok (.invokestatic 76, 3) := by decide +kernel
theorem dX6_costOf_65 : decode cX6_costOf 65 = .ok (.imul, 1) := by decide +kernel
theorem dX6_costOf_66 : decode cX6_costOf 66 = .ok (.iadd, 1) := by decide +kernel
theorem dX6_costOf_67 : decode cX6_costOf 67 = .ok (.ireturn, 1) := by decide +kernel
theorem dX6_isFrom_0 : decode cX6_isFrom 0 = .ok (.iload_n 2, 1) := by decide +kernel
theorem dX6_isFrom_1 : decode cX6_isFrom 1 = .ok (.bipush (-9), 2) := by decide +kernel
theorem dX6_isFrom_3 : decode cX6_isFrom 3 = .ok (.if_icmp .eq 26, 3) := by decide +kernel
theorem dX6_isFrom_6 : decode cX6_isFrom 6 = .ok (.aload_n 0, 1) := by decide +kernel
theorem dX6_isFrom_7 : decode cX6_isFrom 7 = .ok (.iload_n 2, 1) := by decide +kernel
theorem dX6_isFrom_8 : decode cX6_isFrom 8 = .ok (.invokevirtual 111, 3) := by decide +kernel
theorem dX6_isFrom_11 : decode cX6_isFrom 11 = .ok (.ifCond .eq 22, 3) := by decide +kernel
theorem dX6_isFrom_14 : decode cX6_isFrom 14 = .ok (.aload_n 0, 1) := by decide +kernel
theorem dX6_isFrom_15 : decode cX6_isFrom 15 = .ok (.getfield 46, 3) := by decide +kernel
theorem dX6_isFrom_18 : decode cX6_isFrom 18 = .ok (.iload_n 2, 1) := by decide +kernel
theorem dX6_isFrom_19 : decode cX6_isFrom 19 = .ok (.iaload, 1) := by decide +kernel
theorem dX6_isFrom_20 : decode cX6_isFrom 20 = .ok (.aload_n 0, 1) := by decide +kernel
theorem dX6_isFrom_21 : decode cX6_isFrom 21 = .ok (.getfield 46, 3) := by decide +kernel
theorem dX6_isFrom_24 : decode cX6_isFrom 24 = .ok (.iload_n 1, 1) := by decide +kernel
theorem dX6_isFrom_25 : decode cX6_isFrom 25 = .ok (.iaload, 1) := by decide +kernel
theorem dX6_isFrom_26 : decode cX6_isFrom 26 = .ok (.if_icmp .ge 7, 3) := by decide +kernel
theorem dX6_isFrom_29 : decode cX6_isFrom 29 = .ok (.iconst 1, 1) := by decide +kernel
theorem dX6_isFrom_30 : decode cX6_isFrom 30 = .ok (.goto 4, 3) := by decide +kernel
theorem dX6_isFrom_33 : decode cX6_isFrom 33 = .ok (.iconst 0, 1) := by decide +kernel
theorem dX6_isFrom_34 : decode cX6_isFrom 34 = .ok (.ireturn, 1) := by decide +kernel
theorem dX6_cost_0 : decode cX6_cost 0 = .ok (.aload_n 0, 1) := by decide +kernel
theorem dX6_cost_1 : decode cX6_cost 1 = .ok (.iconst 0, 1) := by decide +kernel
theorem dX6_cost_2 : decode cX6_cost 2 = .ok (.putfield 61, 3) := by decide +kernel
theorem dX6_cost_5 : decode cX6_cost 5 = .ok (.aload_n 0, 1) := by decide +kernel
theorem dX6_cost_6 : decode cX6_cost 6 = .ok (.iload_n 1, 1) := by decide +kernel
theorem dX6_cost_7 : decode cX6_cost 7 = .ok (.invokevirtual 111, 3) := by decide +kernel
theorem dX6_cost_10 : decode cX6_cost 10 = .ok (.ifCond .eq 21, 3) := by decide +kernel
theorem dX6_cost_13 : decode cX6_cost 13 = .ok (.aload_n 0, 1) := by decide +kernel
theorem dX6_cost_14 : decode cX6_cost 14 = .ok (.iload_n 1, 1) := by decide +kernel
theorem dX6_cost_15 : decode cX6_cost 15 = .ok (.iload_n 2, 1) := by decide +kernel
theorem dX6_cost_16 : decode cX6_cost 16 = .ok (.invokevirtual 114, 3) := by decide +kernel
theorem dX6_cost_19 : decode cX6_cost 19 = .ok (.ifCond .eq 12, 3) := by decide +kernel
theorem dX6_cost_22 : decode cX6_cost 22 = .ok (.aload_n 0, 1) := by decide +kernel
theorem dX6_cost_23 : decode cX6_cost 23 = .ok (.iload_n 1, 1) := by decide +kernel
theorem dX6_cost_24 : decode cX6_cost 24 = .ok (.iload_n 2, 1) := by decide +kernel
theorem dX6_cost_25 : decode cX6_cost 25 = .ok (.invokevirtual 117, 3) := by decide +kernel
theorem dX6_cost_28 : decode cX6_cost 28 = .ok (.goto 4, 3) := by decide +kernel
theorem dX6_cost_31 : decode cX6_cost 31 = .ok (.iconst (-1), 1) := by decide +kernel
theorem dX6_cost_32 : decode cX6_cost 32 = .ok (.ireturn, 1) := by decide +kernel
theorem dX6_fromOf_0 : decode cX6_fromOf 0 = .ok (.bipush (-9), 2) := by decide +kernel
theorem dX6_fromOf_2 : decode cX6_fromOf 2 = .ok (.istore_n 2, 1) := by decide +kernel
theorem dX6_fromOf_3 : decode cX6_fromOf 3 = .ok (.iconst 0, 1) := by decide +kernel
theorem dX6_fromOf_4 : decode cX6_fromOf 4 = .ok (.istore_n 3, 1) := by decide +kernel
theorem dX6_fromOf_5 : decode cX6_fromOf 5 = .ok (.iload_n 3, 1) := by decide +kernel
theorem dX6_fromOf_6 : decode cX6_fromOf 6 = .ok (.aload_n 0, 1) := by decide +kernel
theorem dX6_fromOf_7 : decode cX6_fromOf 7 = .ok (.getfield 108, 3) := by decide +kernel
theorem dX6_fromOf_10 : decode cX6_fromOf 10 = .ok (.if_icmp .ge 39, 3) := by decide +kernel
theorem dX6_fromOf_13 : decode cX6_fromOf 13 = .ok (.aload_n 0, 1) := by decide +kernel
theorem dX6_fromOf_14 : decode cX6_fromOf 14 = .ok (.iload_n 1, 1) := by decide +kernel
theorem dX6_fromOf_15 : decode cX6_fromOf 15 = .ok (.iload_n 3, 1) := by decide +kernel
theorem dX6_fromOf_16 : decode cX6_fromOf 16 = .ok (.invokevirtual 114, 3) := by decide +kernel
theorem dX6_fromOf_19 : decode cX6_fromOf 19 = .ok (.ifCond .eq 22, 3) := by decide +kernel
theorem dX6_fromOf_22 : decode cX6_fromOf 22 = .ok (.aload_n 0, 1) := by decide +kernel
theorem dX6_fromOf_23 : decode cX6_fromOf 23 = .ok (.iload_n 1, 1) := by decide +kernel
theorem dX6_fromOf_24 : decode cX6_fromOf 24 = .ok (.iload_n 3, 1) := by decide +kernel
theorem dX6_fromOf_25 : decode cX6_fromOf 25 = .ok (.invokevirtual 117, 3) := by decide +kernel
theorem dX6_fromOf_28 : decode cX6_fromOf 28 = .ok (.aload_n 0, 1) := by decide +kernel
theorem dX6_fromOf_29 : decode cX6_fromOf 29 = .ok (.iload_n 1, 1) := by decide +kernel
theorem dX6_fromOf_30 : decode cX6_fromOf 30 = .ok (.iload_n 2, 1) := by decide +kernel
theorem dX6_fromOf_31 : decode cX6_fromOf 31 = .ok (.invokevirtual 117, 3) := by decide +kernel
theorem dX6_fromOf_34 : decode cX6_fromOf 34 = .ok (.if_icmp .ge 7, 3) := by decide +kernel
theorem dX6_fromOf_37 : decode cX6_fromOf 37 = .ok (.iload_n 3, 1) := by decide +kernel
theorem dX6_fromOf_38 : decode cX6_fromOf 38 = .ok (.goto 4, 3) := by decide +kernel
theorem dX6_fromOf_41 : decode cX6_fromOf 41 = .ok (.iload_n 2, 1) := by decide +kernel
theorem dX6_fromOf_42 : decode cX6_fromOf 42 = .ok (.istore_n 2, 1) := by decide +kernel
theorem dX6_fromOf_43 : decode cX6_fromOf 43 = .ok (.iinc 3 1, 3) := by decide +kernel
theorem dX6_fromOf_46 : decode cX6_fromOf 46 = .ok (.goto (-41), 3) := by decide +kernel
theorem dX6_fromOf_49 : decode cX6_fromOf 49 = .ok (.iload_n 2, 1) := by decide +kernel
theorem dX6_fromOf_50 : decode cX6_fromOf 50 = .ok (.ireturn, 1) := by decide +kernel
theorem dX6_from_0 : decode cX6_from 0 = .ok (.aload_n 0, 1) := by decide +kernel
theorem dX6_from_1 : decode cX6_from 1 = .ok (.iconst 0, 1) := by decide +kernel
theorem dX6_from_2 : decode cX6_from 2 = .ok (.putfield 61, 3) := by decide +kernel
theorem dX6_from_5 : decode cX6_from 5 = .ok (.aload_n 0, 1) := by decide +kernel
theorem dX6_from_6 : decode cX6_from 6 = .ok (.iload_n 1, 1) := by decide +kernel
theorem dX6_from_7 : decode cX6_from 7 = .ok (.invokevirtual 111, 3) := by decide +kernel
theorem dX6_from_10 : decode cX6_from 10 = .ok (.ifCond .eq 11, 3) := by decide +kernel
theorem dX6_from_13 : decode cX6_from 13 = .ok (.aload_n 0, 1) := by decide +kernel
theorem dX6_from_14 : decode cX6_from 14 = .ok (.iload_n 1, 1) := by decide +kernel
theorem dX6_from_15 : decode cX6_from 15 = .ok (.invokevirtual 121, 3) := by decide +kernel
theorem dX6_from_18 : decode cX6_from 18 = .ok (.goto 5, 3) := by decide +kernel
theorem dX6_from_21 : decode cX6_from 21 = .ok (.bipush (-2), 2) := by decide +kernel
theorem dX6_from_23 : decode cX6_from 23 = .ok (.ireturn, 1) := by decide +kernel
theorem dX6_rivals_0 : decode cX6_rivals 0 = .ok (.aload_n 0, 1) := by decide +kernel
theorem dX6_rivals_1 : decode cX6_rivals 1 = .ok (.iconst 0, 1) := by decide +kernel
theorem dX6_rivals_2 : decode cX6_rivals 2 = .ok (.putfield 61, 3) := by decide +kernel
theorem dX6_rivals_5 : decode cX6_rivals 5 = .ok (.aload_n 0, 1) := by decide +kernel
theorem dX6_rivals_6 : decode cX6_rivals 6 = .ok (.iload_n 1, 1) := by decide +kernel
theorem dX6_rivals_7 : decode cX6_rivals 7 = .ok (.invokevirtual 111, 3) := by decide +kernel
theorem dX6_rivals_10 : decode cX6_rivals 10 = .ok (.ifCond .ne 5, 3) := by decide +kernel
theorem dX6_rivals_13 : decode cX6_rivals 13 = .ok (.iconst (-1), 1) := by decide +kernel
theorem dX6_rivals_14 : decode cX6_rivals 14 = .ok (.ireturn, 1) := by decide +kernel
theorem dX6_rivals_15 : decode cX6_rivals 15 = .ok (.aload_n 0, 1) := by decide +kernel
theorem dX6_rivals_16 : decode cX6_rivals 16 = .ok (.iload_n 1, 1) := by decide +kernel
theorem dX6_rivals_17 : decode cX6_rivals 17 = .ok (.aload_n 0, 1) := by decide +kernel
theorem dX6_rivals_18 : decode cX6_rivals 18 = .ok (.iload_n 1, 1) := by decide +kernel
theorem dX6_rivals_19 : decode cX6_rivals 19 = .ok (.invokevirtual 121, 3) := by decide +kernel
theorem dX6_rivals_22 : decode cX6_rivals 22 = .ok (.invokevirtual 117, 3) := by decide +kernel
theorem dX6_rivals_25 : decode cX6_rivals 25 = .ok (.istore_n 2, 1) := by decide +kernel
theorem dX6_rivals_26 : decode cX6_rivals 26 = .ok (.aload_n 0, 1) := by decide +kernel
theorem dX6_rivals_27 : decode cX6_rivals 27 = .ok (.iload_n 1, 1) := by decide +kernel
theorem dX6_rivals_28 : decode cX6_rivals 28 = .ok (.bipush (-9), 2) := by decide +kernel
theorem dX6_rivals_30 : decode cX6_rivals 30 = .ok (.invokevirtual 117, 3) := by decide +kernel
theorem dX6_rivals_33 : decode cX6_rivals 33 = .ok (.iload_n 2, 1) := by decide +kernel
theorem dX6_rivals_34 : decode cX6_rivals 34 = .ok (.if_icmp .ne 7, 3) := by decide +kernel
theorem dX6_rivals_37 : decode cX6_rivals 37 = .ok (.iconst 1, 1) := by decide +kernel
theorem dX6_rivals_38 : decode cX6_rivals 38 = .ok (.goto 4, 3) := by decide +kernel
theorem dX6_rivals_41 : decode cX6_rivals 41 = .ok (.iconst 0, 1) := by decide +kernel
theorem dX6_rivals_42 : decode cX6_rivals 42 = .ok (.istore_n 3, 1) := by decide +kernel
theorem dX6_rivals_43 : decode cX6_rivals 43 = .ok (.iconst 0, 1) := by decide +kernel
theorem dX6_rivals_44 : decode cX6_rivals 44 = .ok (.istore 4, 2) := by decide +kernel
theorem dX6_rivals_46 : decode cX6_rivals 46 = .ok (.iload 4, 2) := by decide +kernel
theorem dX6_rivals_48 : decode cX6_rivals 48 = .ok (.aload_n 0, 1) := by decide +kernel
theorem dX6_rivals_49 : decode cX6_rivals 49 = .ok (.getfield 108, 3) := by decide +kernel
theorem dX6_rivals_52 : decode cX6_rivals 52 = .ok (.if_icmp .ge 38, 3) := by decide +kernel
theorem dX6_rivals_55 : decode cX6_rivals 55 = .ok (.iload_n 3, 1) := by decide +kernel
theorem dX6_rivals_56 : decode cX6_rivals 56 = .ok (.aload_n 0, 1) := by decide +kernel
theorem dX6_rivals_57 : decode cX6_rivals 57 = .ok (.iload_n 1, 1) := by decide +kernel
theorem dX6_rivals_58 : decode cX6_rivals 58 = .ok (.iload 4, 2) := by decide +kernel
theorem dX6_rivals_60 : decode cX6_rivals 60 = .ok (.invokevirtual 114, 3) := by decide +kernel
theorem dX6_rivals_63 : decode cX6_rivals 63 = .ok (.ifCond .eq 18, 3) := by decide +kernel
theorem dX6_rivals_66 : decode cX6_rivals 66 = .ok (.aload_n 0, 1) := by decide +kernel
theorem dX6_rivals_67 : decode cX6_rivals 67 = .ok (.iload_n 1, 1) := by decide +kernel
theorem dX6_rivals_68 : decode cX6_rivals 68 = .ok (.iload 4, 2) := by decide +kernel
theorem dX6_rivals_70 : decode cX6_rivals 70 = .ok (.invokevirtual 117, 3) := by decide +kernel
theorem dX6_rivals_73 : decode cX6_rivals 73 = .ok (.iload_n 2, 1) := by decide +kernel
theorem dX6_rivals_74 : decode cX6_rivals 74 = .ok (.if_icmp .ne 7, 3) := by decide +kernel
theorem dX6_rivals_77 : decode cX6_rivals 77 = .ok (.iconst 1, 1) := by decide +kernel
theorem dX6_rivals_78 : decode cX6_rivals 78 = .ok (.goto 4, 3) := by decide +kernel
theorem dX6_rivals_81 : decode cX6_rivals 81 = .ok (.iconst 0, 1) := by decide +kernel
theorem dX6_rivals_82 : decode cX6_rivals 82 = .ok (.iadd, 1) := by decide +kernel
theorem dX6_rivals_83 : decode cX6_rivals 83 = .ok (.istore_n 3, 1) := by decide +kernel
theorem dX6_rivals_84 : decode cX6_rivals 84 = .ok (.iinc 4 1, 3) := by decide +kernel
theorem dX6_rivals_87 : decode cX6_rivals 87 = .ok (.goto (-41), 3) := by decide +kernel
theorem dX6_rivals_90 : decode cX6_rivals 90 = .ok (.iload_n 3, 1) := by decide +kernel
theorem dX6_rivals_91 : decode cX6_rivals 91 = .ok (.iconst 1, 1) := by decide +kernel
theorem dX6_rivals_92 : decode cX6_rivals 92 = .ok (.isub, 1) := by decide +kernel
theorem dX6_rivals_93 : decode cX6_rivals 93 = .ok (.ireturn, 1) := by decide +kernel
theorem dX6_life_0 : decode cX6_life 0 = .ok (.aload_n 0, 1) := by decide +kernel
theorem dX6_life_1 : decode cX6_life 1 = .ok (.iconst 0, 1) := by decide +kernel
theorem dX6_life_2 : decode cX6_life 2 = .ok (.putfield 61, 3) := by decide +kernel
theorem dX6_life_5 : decode cX6_life 5 = .ok (.aload_n 0, 1) := by decide +kernel
theorem dX6_life_6 : decode cX6_life 6 = .ok (.iload_n 1, 1) := by decide +kernel
theorem dX6_life_7 : decode cX6_life 7 = .ok (.invokevirtual 111, 3) := by decide +kernel
theorem dX6_life_10 : decode cX6_life 10 = .ok (.ifCond .eq 26, 3) := by decide +kernel
theorem dX6_life_13 : decode cX6_life 13 = .ok (.iload_n 2, 1) := by decide +kernel
theorem dX6_life_14 : decode cX6_life 14 = .ok (.iconst 0, 1) := by decide +kernel
theorem dX6_life_15 : decode cX6_life 15 = .ok (.bipush 11, 2) := by decide +kernel
theorem dX6_life_17 : decode cX6_life 17 = .ok (.invokestatic 65, 3) := by decide +kernel
theorem dX6_life_20 : decode cX6_life 20 = .ok (.ifCond .eq 16, 3) := by decide +kernel
theorem dX6_life_23 : decode cX6_life 23 = .ok (.aload_n 0, 1) := by decide +kernel
theorem dX6_life_24 : decode cX6_life 24 = .ok (.getfield 49, 3) := by decide +kernel
theorem dX6_life_27 : decode cX6_life 27 = .ok (.iload_n 1, 1) := by decide +kernel
theorem dX6_life_28 : decode cX6_life 28 = .ok (.iaload, 1) := by decide +kernel
theorem dX6_life_29 : decode cX6_life 29 = .ok (.iload_n 2, 1) := by decide +kernel
theorem dX6_life_30 : decode cX6_life 30 = .ok (.ishr, 1) := by decide +kernel
theorem dX6_life_31 : decode cX6_life 31 = .ok (.iconst 1, 1) := by decide +kernel
theorem dX6_life_32 : decode cX6_life 32 = .ok (.iand, 1) := by decide +kernel
theorem dX6_life_33 : decode cX6_life 33 = .ok (.ifCond .ne 5, 3) := by decide +kernel
theorem dX6_life_36 : decode cX6_life 36 = .ok (.iconst (-1), 1) := by decide +kernel
theorem dX6_life_37 : decode cX6_life 37 = .ok (.ireturn, 1) := by decide +kernel
theorem dX6_life_38 : decode cX6_life 38 = .ok (.iconst 0, 1) := by decide +kernel
theorem dX6_life_39 : decode cX6_life 39 = .ok (.istore_n 3, 1) := by decide +kernel
theorem dX6_life_40 : decode cX6_life 40 = .ok (.iconst 0, 1) := by decide +kernel
theorem dX6_life_41 : decode cX6_life 41 = .ok (.istore 4, 2) := by decide +kernel
theorem dX6_life_43 : decode cX6_life 43 = .ok (.iload 4, 2) := by decide +kernel
theorem dX6_life_45 : decode cX6_life 45 = .ok (.aload_n 0, 1) := by decide +kernel
theorem dX6_life_46 : decode cX6_life 46 = .ok (.getfield 108, 3) := by decide +kernel
theorem dX6_life_49 : decode cX6_life 49 = .ok (.if_icmp .ge 66, 3) := by decide +kernel
theorem dX6_life_52 : decode cX6_life 52 = .ok (.iload 4, 2) := by decide +kernel
theorem dX6_life_54 : decode cX6_life 54 = .ok (.istore 5, 2) := by decide +kernel
theorem dX6_life_56 : decode cX6_life 56 = .ok (.iload 5, 2) := by decide +kernel
theorem dX6_life_58 : decode cX6_life 58 = .ok (.bipush (-9), 2) := by decide +kernel
theorem dX6_life_60 : decode cX6_life 60 = .ok (.if_icmp .eq 35, 3) := by decide +kernel
theorem dX6_life_63 : decode cX6_life 63 = .ok (.iload 5, 2) := by decide +kernel
theorem dX6_life_65 : decode cX6_life 65 = .ok (.iload_n 1, 1) := by decide +kernel
theorem dX6_life_66 : decode cX6_life 66 = .ok (.if_icmp .eq 29, 3) := by decide +kernel
theorem dX6_life_69 : decode cX6_life 69 = .ok (.aload_n 0, 1) := by decide +kernel
theorem dX6_life_70 : decode cX6_life 70 = .ok (.getfield 49, 3) := by decide +kernel
theorem dX6_life_73 : decode cX6_life 73 = .ok (.iload 5, 2) := by decide +kernel
theorem dX6_life_75 : decode cX6_life 75 = .ok (.iaload, 1) := by decide +kernel
theorem dX6_life_76 : decode cX6_life 76 = .ok (.iload_n 2, 1) := by decide +kernel
theorem dX6_life_77 : decode cX6_life 77 = .ok (.ishr, 1) := by decide +kernel
theorem dX6_life_78 : decode cX6_life 78 = .ok (.iconst 1, 1) := by decide +kernel
theorem dX6_life_79 : decode cX6_life 79 = .ok (.iand, 1) := by decide +kernel
theorem dX6_life_80 : decode cX6_life 80 = .ok (.iconst 1, 1) := by decide +kernel
theorem dX6_life_81 : decode cX6_life 81 = .ok (.if_icmp .ne 14, 3) := by decide +kernel
theorem dX6_life_84 : decode cX6_life 84 = .ok (.aload_n 0, 1) := by decide +kernel
theorem dX6_life_85 : decode cX6_life 85 = .ok (.iload 5, 2) := by decide +kernel
theorem dX6_life_87 : decode cX6_life 87 = .ok (.invokevirtual 121, 3) := by decide +kernel
theorem dX6_life_90 : decode cX6_life 90 = .ok (.istore 5, 2) := by decide +kernel
theorem dX6_life_92 : decode cX6_life 92 = .ok (.goto (-36), 3) := by decide +kernel
theorem dX6_life_95 : decode cX6_life 95 = .ok (.iload_n 3, 1) := by decide +kernel
theorem dX6_life_96 : decode cX6_life 96 = .ok (.iload 5, 2) := by decide +kernel
theorem dX6_life_98 : decode cX6_life 98 = .ok (.iload_n 1, 1) := by decide +kernel
theorem dX6_life_99 : decode cX6_life 99 = .ok (.if_icmp .ne 7, 3) := by decide +kernel
theorem dX6_life_102 : decode cX6_life 102 = .ok (.iconst 1, 1) := by decide +kernel
theorem dX6_life_103 : decode cX6_life 103 = .ok (.goto 4, 3) := by decide +kernel
theorem dX6_life_106 : decode cX6_life 106 = .ok (.iconst 0, 1) := by decide +kernel
theorem dX6_life_107 : decode cX6_life 107 = .ok (.iadd, 1) := by decide +kernel
theorem dX6_life_108 : decode cX6_life 108 = .ok (.istore_n 3, 1) := by decide +kernel
theorem dX6_life_109 : decode cX6_life 109 = .ok (.iinc 4 1, 3) := by decide +kernel
theorem dX6_life_112 : decode cX6_life 112 = .ok (.goto (-69), 3) := by decide +kernel
theorem dX6_life_115 : decode cX6_life 115 = .ok (.iload_n 3, 1) := by decide +kernel
theorem dX6_life_116 : decode cX6_life 116 = .ok (.ireturn, 1) := by decide +kernel
theorem dX6_hole_0 : decode cX6_hole 0 = .ok (.aload_n 0, 1) := by decide +kernel
theorem dX6_hole_1 : decode cX6_hole 1 = .ok (.iconst 0, 1) := by decide +kernel
theorem dX6_hole_2 : decode cX6_hole 2 = .ok (.putfield 61, 3) := by decide +kernel
theorem dX6_hole_5 : decode cX6_hole 5 = .ok (.iload_n 1, 1) := by decide +kernel
theorem dX6_hole_6 : decode cX6_hole 6 = .ok (.iconst 0, 1) := by decide +kernel
theorem dX6_hole_7 : decode cX6_hole 7 = .ok (.iconst 1, 1) := by decide +kernel
theorem dX6_hole_8 : decode cX6_hole 8 = .ok (.invokestatic 65, 3) := by decide +kernel
theorem dX6_hole_11 : decode cX6_hole 11 = .ok (.ifCond .eq 37, 3) := by decide +kernel
theorem dX6_hole_14 : decode cX6_hole 14 = .ok (.iload_n 1, 1) := by decide +kernel
theorem dX6_hole_15 : decode cX6_hole 15 = .ok (.ifCond .ne 14, 3) := by decide +kernel
theorem dX6_hole_18 : decode cX6_hole 18 = .ok (.aload_n 0, 1) := by decide +kernel
theorem dX6_hole_19 : decode cX6_hole 19 = .ok (.iload_n 2, 1) := by decide +kernel
theorem dX6_hole_20 : decode cX6_hole 20 = .ok (.invokevirtual 91, 3) := by decide +kernel
theorem dX6_hole_23 : decode cX6_hole 23 = .ok (.ifCond .eq 25, 3) := by decide +kernel
theorem dX6_hole_26 : decode cX6_hole 26 = .ok (.goto 12, 3) := by decide +kernel
theorem dX6_hole_29 : decode cX6_hole 29 = .ok (.iload_n 2, 1) := by decide +kernel
theorem dX6_hole_30 : decode cX6_hole 30 = .ok (.iconst 0, 1) := by decide +kernel
theorem dX6_hole_31 : decode cX6_hole 31 = .ok (.iconst 3, 1) := by decide +kernel
theorem dX6_hole_32 : decode cX6_hole 32 = .ok (.invokestatic 65, 3) := by decide +kernel
theorem dX6_hole_35 : decode cX6_hole 35 = .ok (.ifCond .eq 13, 3) := by decide +kernel
theorem dX6_hole_38 : decode cX6_hole 38 = .ok (.iload_n 3, 1) := by decide +kernel
theorem dX6_hole_39 : decode cX6_hole 39 = .ok (.iconst 0, 1) := by decide +kernel
theorem dX6_hole_40 : decode cX6_hole 40 = .ok (.bipush 99, 2) := by decide +kernel
theorem dX6_hole_42 : decode cX6_hole 42 = .ok (.invokestatic 65, 3) := by decide +kernel
theorem dX6_hole_45 : decode cX6_hole 45 = .ok (.ifCond .ne 5, 3) := by decide +kernel
theorem dX6_hole_48 : decode cX6_hole 48 = .ok (.iconst (-1), 1) := by decide +kernel
theorem dX6_hole_49 : decode cX6_hole 49 = .ok (.ireturn, 1) := by decide +kernel
theorem dX6_hole_50 : decode cX6_hole 50 = .ok (.iload_n 1, 1) := by decide +kernel
theorem dX6_hole_51 : decode cX6_hole 51 = .ok (.ifCond .ne 7, 3) := by decide +kernel
theorem dX6_hole_54 : decode cX6_hole 54 = .ok (.iload_n 2, 1) := by decide +kernel
theorem dX6_hole_55 : decode cX6_hole 55 = .ok (.goto 7, 3) := by decide +kernel
theorem dX6_hole_58 : decode cX6_hole 58 = .ok (.bipush 20, 2) := by decide +kernel
theorem dX6_hole_60 : decode cX6_hole 60 = .ok (.iload_n 2, 1) := by decide +kernel
theorem dX6_hole_61 : decode cX6_hole 61 = .ok (.iadd, 1) := by decide +kernel
theorem dX6_hole_62 : decode cX6_hole 62 = .ok (.istore 4, 2) := by decide +kernel
theorem dX6_hole_64 : decode cX6_hole 64 = .ok (.iconst 0, 1) := by decide +kernel
theorem dX6_hole_65 : decode cX6_hole 65 = .ok (.istore 5, 2) := by decide +kernel
theorem dX6_hole_67 : decode cX6_hole 67 = .ok (.iload 5, 2) := by decide +kernel
theorem dX6_hole_69 : decode cX6_hole 69 = .ok (.aload_n 0, 1) := by decide +kernel
theorem dX6_hole_70 : decode cX6_hole 70 = .ok (.getfield 52, 3) := by decide +kernel
theorem dX6_hole_73 : decode cX6_hole 73 = .ok (.iload 4, 2) := by decide +kernel
theorem dX6_hole_75 : decode cX6_hole 75 = .ok (.iaload, 1) := by decide +kernel
theorem dX6_hole_76 : decode cX6_hole 76 = .ok (.if_icmp .ge 34, 3) := by decide +kernel
theorem dX6_hole_79 : decode cX6_hole 79 = .ok (.aload_n 0, 1) := by decide +kernel
theorem dX6_hole_80 : decode cX6_hole 80 = .ok (.getfield 55, 3) := by decide +kernel
theorem dX6_hole_83 : decode cX6_hole 83 = .ok (.bipush 6, 2) := by decide +kernel
theorem dX6_hole_85 : decode cX6_hole 85 = .ok (.iload 4, 2) := by decide +kernel
theorem dX6_hole_87 : decode cX6_hole 87 = .ok (.imul, 1) := by decide +kernel
theorem dX6_hole_88 : decode cX6_hole 88 = .ok (.iload 5, 2) := by decide +kernel
theorem dX6_hole_90 : decode cX6_hole 90 = .ok (.iadd, 1) := by decide +kernel
theorem dX6_hole_91 : decode cX6_hole 91 = .ok (.iaload, 1) := by decide +kernel
theorem dX6_hole_92 : decode cX6_hole 92 = .ok (.iload_n 3, 1) := by decide +kernel
theorem dX6_hole_93 : decode cX6_hole 93 = .ok (.if_icmp .ne 11, 3) := by decide +kernel
theorem dX6_hole_96 : decode cX6_hole 96 = .ok (.aload_n 0, 1) := by decide +kernel
theorem dX6_hole_97 : decode cX6_hole 97 = .ok (.getfield 52, 3) := by decide +kernel
theorem dX6_hole_100 : decode cX6_hole 100 = .ok (.iload 4, 2) := by decide +kernel
theorem dX6_hole_102 : decode cX6_hole 102 = .ok (.iaload, 1) := by decide +kernel
theorem dX6_hole_103 : decode cX6_hole 103 = .ok (.ireturn, 1) := by decide +kernel
theorem dX6_hole_104 : decode cX6_hole 104 = .ok (.iinc 5 1, 3) := by decide +kernel
theorem dX6_hole_107 : decode cX6_hole 107 = .ok (.goto (-40), 3) := by decide +kernel
theorem dX6_hole_110 : decode cX6_hole 110 = .ok (.aload_n 0, 1) := by decide +kernel
theorem dX6_hole_111 : decode cX6_hole 111 = .ok (.getfield 52, 3) := by decide +kernel
theorem dX6_hole_114 : decode cX6_hole 114 = .ok (.iload 4, 2) := by decide +kernel
theorem dX6_hole_116 : decode cX6_hole 116 = .ok (.iaload, 1) := by decide +kernel
theorem dX6_hole_117 : decode cX6_hole 117 = .ok (.bipush 6, 2) := by decide +kernel
theorem dX6_hole_119 : decode cX6_hole 119 = .ok (.if_icmp .ne 6, 3) := by decide +kernel
theorem dX6_hole_122 : decode cX6_hole 122 = .ok (.bipush (-3), 2) := by decide +kernel
theorem dX6_hole_124 : decode cX6_hole 124 = .ok (.ireturn, 1) := by decide +kernel
theorem dX6_hole_125 : decode cX6_hole 125 = .ok (.aload_n 0, 1) := by decide +kernel
theorem dX6_hole_126 : decode cX6_hole 126 = .ok (.getfield 55, 3) := by decide +kernel
theorem dX6_hole_129 : decode cX6_hole 129 = .ok (.bipush 6, 2) := by decide +kernel
theorem dX6_hole_131 : decode cX6_hole 131 = .ok (.iload 4, 2) := by decide +kernel
theorem dX6_hole_133 : decode cX6_hole 133 = .ok (.imul, 1) := by decide +kernel
theorem dX6_hole_134 : decode cX6_hole 134 = .ok (.aload_n 0, 1) := by decide +kernel
theorem dX6_hole_135 : decode cX6_hole 135 = .ok (.getfield 52, 3) := by decide +kernel
theorem dX6_hole_138 : decode cX6_hole 138 = .ok (.iload 4, 2) := by decide +kernel
theorem dX6_hole_140 : decode cX6_hole 140 = .ok (.iaload, 1) := by decide +kernel
theorem dX6_hole_141 : decode cX6_hole 141 = .ok (.iadd, 1) := by decide +kernel
theorem dX6_hole_142 : decode cX6_hole 142 = .ok (.iload_n 3, 1) := by decide +kernel
theorem dX6_hole_143 : decode cX6_hole 143 = .ok (.iastore, 1) := by decide +kernel
theorem dX6_hole_144 : decode cX6_hole 144 = .ok (.aload_n 0, 1) := by decide +kernel
theorem dX6_hole_145 : decode cX6_hole 145 = .ok (.getfield 52, 3) := by decide +kernel
theorem dX6_hole_148 : decode cX6_hole 148 = .ok (.iload 4, 2) := by decide +kernel
theorem dX6_hole_150 : decode cX6_hole 150 = .ok (.dup2, 1) := by decide +kernel
theorem dX6_hole_151 : decode cX6_hole 151 = .ok (.iaload, 1) := by decide +kernel
theorem dX6_hole_152 : decode cX6_hole 152 = .ok (.iconst 1, 1) := by decide +kernel
theorem dX6_hole_153 : decode cX6_hole 153 = .ok (.iadd, 1) := by decide +kernel
theorem dX6_hole_154 : decode cX6_hole 154 = .ok (.iastore, 1) := by decide +kernel
theorem dX6_hole_155 : decode cX6_hole 155 = .ok (.aload_n 0, 1) := by decide +kernel
theorem dX6_hole_156 : decode cX6_hole 156 = .ok (.getfield 52, 3) := by decide +kernel
theorem dX6_hole_159 : decode cX6_hole 159 = .ok (.iload 4, 2) := by decide +kernel
theorem dX6_hole_161 : decode cX6_hole 161 = .ok (.iaload, 1) := by decide +kernel
theorem dX6_hole_162 : decode cX6_hole 162 = .ok (.ireturn, 1) := by decide +kernel
theorem dX6_fitsOf_0 : decode cX6_fitsOf 0 = .ok (.iconst 0, 1) := by decide +kernel
theorem dX6_fitsOf_1 : decode cX6_fitsOf 1 = .ok (.istore 4, 2) := by decide +kernel
theorem dX6_fitsOf_3 : decode cX6_fitsOf 3 = .ok (.iconst 0, 1) := by decide +kernel
theorem dX6_fitsOf_4 : decode cX6_fitsOf 4 = .ok (.istore 5, 2) := by decide +kernel
theorem dX6_fitsOf_6 : decode cX6_fitsOf 6 = .ok (.iload 5, 2) := by decide +kernel
theorem dX6_fitsOf_8 : decode cX6_fitsOf 8 = .ok (.aload_n 0, 1) := by decide +kernel
theorem dX6_fitsOf_9 : decode cX6_fitsOf 9 = .ok (.getfield 52, 3) := by decide +kernel
theorem dX6_fitsOf_12 : decode cX6_fitsOf 12 = .ok (.iload_n 1, 1) := by decide +kernel
theorem dX6_fitsOf_13 : decode cX6_fitsOf 13 = .ok (.iaload, 1) := by decide +kernel
theorem dX6_fitsOf_14 : decode cX6_fitsOf 14 = .ok (.if_icmp .ge 90, 3) := by decide +kernel
theorem dX6_fitsOf_17 : decode cX6_fitsOf 17 = .ok (.iconst 0, 1) := by decide +kernel
theorem dX6_fitsOf_18 : decode cX6_fitsOf 18 = .ok (.istore 6, 2) := by decide +kernel
theorem dX6_fitsOf_20 : decode cX6_fitsOf 20 = .ok (.iconst 0, 1) := by decide +kernel
theorem dX6_fitsOf_21 : decode cX6_fitsOf 21 = .ok (.istore 7, 2) := by decide +kernel
theorem dX6_fitsOf_23 : decode cX6_fitsOf 23 = .ok (.iload 7, 2) := by decide +kernel
theorem dX6_fitsOf_25 : decode cX6_fitsOf 25 = .ok (.aload_n 0, 1) := by decide +kernel
theorem dX6_fitsOf_26 : decode cX6_fitsOf 26 = .ok (.getfield 52, 3) := by decide +kernel
theorem dX6_fitsOf_29 : decode cX6_fitsOf 29 = .ok (.bipush 20, 2) := by decide +kernel
theorem dX6_fitsOf_31 : decode cX6_fitsOf 31 = .ok (.iload_n 2, 1) := by decide +kernel
theorem dX6_fitsOf_32 : decode cX6_fitsOf 32 = .ok (.iadd, 1) := by decide +kernel
theorem dX6_fitsOf_33 : decode cX6_fitsOf 33 = .ok (.iaload, 1) := by decide +kernel
theorem dX6_fitsOf_34 : decode cX6_fitsOf 34 = .ok (.if_icmp .ge 49, 3) := by decide +kernel
theorem dX6_fitsOf_37 : decode cX6_fitsOf 37 = .ok (.iload 6, 2) := by decide +kernel
theorem dX6_fitsOf_39 : decode cX6_fitsOf 39 = .ok (.aload_n 0, 1) := by decide +kernel
theorem dX6_fitsOf_40 : decode cX6_fitsOf 40 = .ok (.getfield 55, 3) := by decide +kernel
theorem dX6_fitsOf_43 : decode cX6_fitsOf 43 = .ok (.bipush 6, 2) := by decide +kernel
theorem dX6_fitsOf_45 : decode cX6_fitsOf 45 = .ok (.iload_n 1, 1) := by decide +kernel
theorem dX6_fitsOf_46 : decode cX6_fitsOf 46 = .ok (.imul, 1) := by decide +kernel
theorem dX6_fitsOf_47 : decode cX6_fitsOf 47 = .ok (.iload 5, 2) := by decide +kernel
theorem dX6_fitsOf_49 : decode cX6_fitsOf 49 = .ok (.iadd, 1) := by decide +kernel
theorem dX6_fitsOf_50 : decode cX6_fitsOf 50 = .ok (.iaload, 1) := by decide +kernel
theorem dX6_fitsOf_51 : decode cX6_fitsOf 51 = .ok (.iload_n 3, 1) := by decide +kernel
theorem dX6_fitsOf_52 : decode cX6_fitsOf 52 = .ok (.iadd, 1) := by decide +kernel
theorem dX6_fitsOf_53 : decode cX6_fitsOf 53 = .ok (.aload_n 0, 1) := by decide +kernel
theorem dX6_fitsOf_54 : decode cX6_fitsOf 54 = .ok (.getfield 55, 3) := by decide +kernel
theorem dX6_fitsOf_57 : decode cX6_fitsOf 57 = .ok (.bipush 120, 2) := by decide +kernel
theorem dX6_fitsOf_59 : decode cX6_fitsOf 59 = .ok (.bipush 6, 2) := by decide +kernel
theorem dX6_fitsOf_61 : decode cX6_fitsOf 61 = .ok (.iload_n 2, 1) := by decide +kernel
theorem dX6_fitsOf_62 : decode cX6_fitsOf 62 = .ok (.imul, 1) := by decide +kernel
theorem dX6_fitsOf_63 : decode cX6_fitsOf 63 = .ok (.iadd, 1) := by decide +kernel
theorem dX6_fitsOf_64 : decode cX6_fitsOf 64 = .ok (.iload 7, 2) := by decide +kernel
theorem dX6_fitsOf_66 : decode cX6_fitsOf 66 = .ok (.iadd, 1) := by decide +kernel
theorem dX6_fitsOf_67 : decode cX6_fitsOf 67 = .ok (.iaload, 1) := by decide +kernel
theorem dX6_fitsOf_68 : decode cX6_fitsOf 68 = .ok (.isub, 1) := by decide +kernel
theorem dX6_fitsOf_69 : decode cX6_fitsOf 69 = .ok (.iconst (-1), 1) := by decide +kernel
theorem dX6_fitsOf_70 : decode cX6_fitsOf 70 = .ok (.iconst 1, 1) := by decide +kernel
theorem dX6_fitsOf_71 : decode cX6_fitsOf 71 = .ok (.invokestatic 65, 3) := by decide +kernel
theorem dX6_fitsOf_74 : decode cX6_fitsOf 74 = .ok (.ior, 1) := by decide +kernel
theorem dX6_fitsOf_75 : decode cX6_fitsOf 75 = .ok (.istore 6, 2) := by decide +kernel
theorem dX6_fitsOf_77 : decode cX6_fitsOf 77 = .ok (.iinc 7 1, 3) := by decide +kernel
theorem dX6_fitsOf_80 : decode cX6_fitsOf 80 = .ok (.goto (-57), 3) := by decide +kernel
theorem dX6_fitsOf_83 : decode cX6_fitsOf 83 = .ok (.iload 4, 2) := by decide +kernel
theorem dX6_fitsOf_85 : decode cX6_fitsOf 85 = .ok (.iload 6, 2) := by decide +kernel
theorem dX6_fitsOf_87 : decode cX6_fitsOf 87 = .ok (.ifCond .eq 7, 3) := by decide +kernel
theorem dX6_fitsOf_90 : decode cX6_fitsOf 90 = .ok (.iconst 1, 1) := by decide +kernel
theorem dX6_fitsOf_91 : decode cX6_fitsOf 91 = .ok (.goto 4, 3) := by decide +kernel
theorem dX6_fitsOf_94 : decode cX6_fitsOf 94 = .ok (.iconst 0, 1) := by decide +kernel
theorem dX6_fitsOf_95 : decode cX6_fitsOf 95 = .ok (.iadd, 1) := by decide +kernel
theorem dX6_fitsOf_96 : decode cX6_fitsOf 96 = .ok (.istore 4, 2) := by decide +kernel
theorem dX6_fitsOf_98 : decode cX6_fitsOf 98 = .ok (.iinc 5 1, 3) := by decide +kernel
theorem dX6_fitsOf_101 : decode cX6_fitsOf 101 = .ok (.goto (-95), 3) := by decide +kernel
theorem dX6_fitsOf_104 : decode cX6_fitsOf 104 = .ok (.iload 4, 2) := by decide +kernel
theorem dX6_fitsOf_106 : decode cX6_fitsOf 106 = .ok (.ireturn, 1) := by decide +kernel
theorem dX6_isBook_0 : decode cX6_isBook 0 = .ok (.iload_n 0, 1) := by decide +kernel
theorem dX6_isBook_1 : decode cX6_isBook 1 = .ok (.iconst 0, 1) := by decide +kernel
theorem dX6_isBook_2 : decode cX6_isBook 2 = .ok (.iconst 3, 1) := by decide +kernel
theorem dX6_isBook_3 : decode cX6_isBook 3 = .ok (.invokestatic 65, 3) := by decide +kernel
theorem dX6_isBook_6 : decode cX6_isBook 6 = .ok (.ireturn, 1) := by decide +kernel
theorem dX6_fits_0 : decode cX6_fits 0 = .ok (.aload_n 0, 1) := by decide +kernel
theorem dX6_fits_1 : decode cX6_fits 1 = .ok (.iconst 0, 1) := by decide +kernel
theorem dX6_fits_2 : decode cX6_fits 2 = .ok (.putfield 61, 3) := by decide +kernel
theorem dX6_fits_5 : decode cX6_fits 5 = .ok (.aload_n 0, 1) := by decide +kernel
theorem dX6_fits_6 : decode cX6_fits 6 = .ok (.iload_n 1, 1) := by decide +kernel
theorem dX6_fits_7 : decode cX6_fits 7 = .ok (.invokevirtual 91, 3) := by decide +kernel
theorem dX6_fits_10 : decode cX6_fits 10 = .ok (.ifCond .eq 31, 3) := by decide +kernel
theorem dX6_fits_13 : decode cX6_fits 13 = .ok (.iload_n 2, 1) := by decide +kernel
theorem dX6_fits_14 : decode cX6_fits 14 = .ok (.invokestatic 124, 3) := by decide +kernel
theorem dX6_fits_17 : decode cX6_fits 17 = .ok (.ifCond .eq 24, 3) := by decide +kernel
theorem dX6_fits_20 : decode cX6_fits 20 = .ok (.iload_n 3, 1) := by decide +kernel
theorem dX6_fits_21 : decode cX6_fits 21 = .ok (.bipush (-20), 2) := by decide +kernel
theorem dX6_fits_23 : decode cX6_fits 23 = .ok (.bipush 20, 2) := by decide +kernel
theorem dX6_fits_25 : decode cX6_fits 25 = .ok (.invokestatic 65, 3) := by decide +kernel
theorem dX6_fits_28 : decode cX6_fits 28 = .ok (.ifCond .eq 13, 3) := by decide +kernel
theorem dX6_fits_31 : decode cX6_fits 31 = .ok (.aload_n 0, 1) := by decide +kernel
theorem dX6_fits_32 : decode cX6_fits 32 = .ok (.iload_n 1, 1) := by decide +kernel
theorem dX6_fits_33 : decode cX6_fits 33 = .ok (.iload_n 2, 1) := by decide +kernel
theorem dX6_fits_34 : decode cX6_fits 34 = .ok (.iload_n 3, 1) := by decide +kernel
theorem dX6_fits_35 : decode cX6_fits 35 = .ok (.invokevirtual 127, 3) := by decide +kernel
theorem dX6_fits_38 : decode cX6_fits 38 = .ok (.goto 4, 3) := by decide +kernel
theorem dX6_fits_41 : decode cX6_fits 41 = .ok (.iconst (-1), 1) := by decide +kernel
theorem dX6_fits_42 : decode cX6_fits 42 = .ok (.ireturn, 1) := by decide +kernel
theorem dX6_shiftOf_0 : decode cX6_shiftOf 0 = .ok (.iconst 0, 1) := by decide +kernel
theorem dX6_shiftOf_1 : decode cX6_shiftOf 1 = .ok (.istore_n 3, 1) := by decide +kernel
theorem dX6_shiftOf_2 : decode cX6_shiftOf 2 = .ok (.iconst 1, 1) := by decide +kernel
theorem dX6_shiftOf_3 : decode cX6_shiftOf 3 = .ok (.istore 4, 2) := by decide +kernel
theorem dX6_shiftOf_5 : decode cX6_shiftOf 5 = .ok (.iload 4, 2) := by decide +kernel
theorem dX6_shiftOf_7 : decode cX6_shiftOf 7 = .ok (.bipush 20, 2) := by decide +kernel
theorem dX6_shiftOf_9 : decode cX6_shiftOf 9 = .ok (.if_icmp .gt 61, 3) := by decide +kernel
theorem dX6_shiftOf_12 : decode cX6_shiftOf 12 = .ok (.aload_n 0, 1) := by decide +kernel
theorem dX6_shiftOf_13 : decode cX6_shiftOf 13 = .ok (.iload_n 1, 1) := by decide +kernel
theorem dX6_shiftOf_14 : decode cX6_shiftOf 14 = .ok (.iload_n 2, 1) := by decide +kernel
theorem dX6_shiftOf_15 : decode cX6_shiftOf 15 = .ok (.iload 4, 2) := by decide +kernel
theorem dX6_shiftOf_17 : decode cX6_shiftOf 17 = .ok (.ineg, 1) := by decide +kernel
theorem dX6_shiftOf_18 : decode cX6_shiftOf 18 = .ok (.invokevirtual 127, 3) := by decide +kernel
theorem dX6_shiftOf_21 : decode cX6_shiftOf 21 = .ok (.aload_n 0, 1) := by decide +kernel
theorem dX6_shiftOf_22 : decode cX6_shiftOf 22 = .ok (.iload_n 1, 1) := by decide +kernel
theorem dX6_shiftOf_23 : decode cX6_shiftOf 23 = .ok (.iload_n 2, 1) := by decide +kernel
theorem dX6_shiftOf_24 : decode cX6_shiftOf 24 = .ok (.iload_n 3, 1) := by decide +kernel
theorem dX6_shiftOf_25 : decode cX6_shiftOf 25 = .ok (.invokevirtual 127, 3) := by decide +kernel
theorem dX6_shiftOf_28 : decode cX6_shiftOf 28 = .ok (.if_icmp .le 9, 3) := by decide +kernel
theorem dX6_shiftOf_31 : decode cX6_shiftOf 31 = .ok (.iload 4, 2) := by decide +kernel
theorem dX6_shiftOf_33 : decode cX6_shiftOf 33 = .ok (.ineg, 1) := by decide +kernel
theorem dX6_shiftOf_34 : decode cX6_shiftOf 34 = .ok (.goto 4, 3) := by decide +kernel
theorem dX6_shiftOf_37 : decode cX6_shiftOf 37 = .ok (.iload_n 3, 1) := by decide +kernel
theorem dX6_shiftOf_38 : decode cX6_shiftOf 38 = .ok (.istore_n 3, 1) := by decide +kernel
theorem dX6_shiftOf_39 : decode cX6_shiftOf 39 = .ok (.aload_n 0, 1) := by decide +kernel
theorem dX6_shiftOf_40 : decode cX6_shiftOf 40 = .ok (.iload_n 1, 1) := by decide +kernel
theorem dX6_shiftOf_41 : decode cX6_shiftOf 41 = .ok (.iload_n 2, 1) := by decide +kernel
theorem dX6_shiftOf_42 : decode cX6_shiftOf 42 = .ok (.iload 4, 2) := by decide +kernel
theorem dX6_shiftOf_44 : decode cX6_shiftOf 44 = .ok (.invokevirtual 127, 3) := by decide +kernel
theorem dX6_shiftOf_47 : decode cX6_shiftOf 47 = .ok (.aload_n 0, 1) := by decide +kernel
theorem dX6_shiftOf_48 : decode cX6_shiftOf 48 = .ok (.iload_n 1, 1) := by decide +kernel
theorem dX6_shiftOf_49 : decode cX6_shiftOf 49 = .ok (.iload_n 2, 1) := by decide +kernel
theorem dX6_shiftOf_50 : decode cX6_shiftOf 50 = .ok (.iload_n 3, 1) := by decide +kernel
theorem dX6_shiftOf_51 : decode cX6_shiftOf 51 = .ok (.invokevirtual 127, 3) := by decide +kernel
theorem dX6_shiftOf_54 : decode cX6_shiftOf 54 = .ok (.if_icmp .le 8, 3) := by decide +kernel
theorem dX6_shiftOf_57 : decode cX6_shiftOf 57 = .ok (.iload 4, 2) := by decide +kernel
theorem dX6_shiftOf_59 : decode cX6_shiftOf 59 = .ok (.goto 4, 3) := by decide +kernel
theorem dX6_shiftOf_62 : decode cX6_shiftOf 62 = .ok (.iload_n 3, 1) := by decide +kernel
theorem dX6_shiftOf_63 : decode cX6_shiftOf 63 = .ok (.istore_n 3, 1) := by decide +kernel
theorem dX6_shiftOf_64 : decode cX6_shiftOf 64 = .ok (.iinc 4 1, 3) := by decide +kernel
theorem dX6_shiftOf_67 : decode cX6_shiftOf 67 = .ok (.goto (-62), 3) := by decide +kernel
theorem dX6_shiftOf_70 : decode cX6_shiftOf 70 = .ok (.iload_n 3, 1) := by decide +kernel
theorem dX6_shiftOf_71 : decode cX6_shiftOf 71 = .ok (.ireturn, 1) := by decide +kernel
theorem dX6_shift_0 : decode cX6_shift 0 = .ok (.aload_n 0, 1) := by decide +kernel
theorem dX6_shift_1 : decode cX6_shift 1 = .ok (.iconst 0, 1) := by decide +kernel
theorem dX6_shift_2 : decode cX6_shift 2 = .ok (.putfield 61, 3) := by decide +kernel
theorem dX6_shift_5 : decode cX6_shift 5 = .ok (.aload_n 0, 1) := by decide +kernel
theorem dX6_shift_6 : decode cX6_shift 6 = .ok (.iload_n 1, 1) := by decide +kernel
theorem dX6_shift_7 : decode cX6_shift 7 = .ok (.invokevirtual 91, 3) := by decide +kernel
theorem dX6_shift_10 : decode cX6_shift 10 = .ok (.ifCond .eq 19, 3) := by decide +kernel
theorem dX6_shift_13 : decode cX6_shift 13 = .ok (.iload_n 2, 1) := by decide +kernel
theorem dX6_shift_14 : decode cX6_shift 14 = .ok (.invokestatic 124, 3) := by decide +kernel
theorem dX6_shift_17 : decode cX6_shift 17 = .ok (.ifCond .eq 12, 3) := by decide +kernel
theorem dX6_shift_20 : decode cX6_shift 20 = .ok (.iload_n 3, 1) := by decide +kernel
theorem dX6_shift_21 : decode cX6_shift 21 = .ok (.iconst 0, 1) := by decide +kernel
theorem dX6_shift_22 : decode cX6_shift 22 = .ok (.iconst 1, 1) := by decide +kernel
theorem dX6_shift_23 : decode cX6_shift 23 = .ok (.invokestatic 65, 3) := by decide +kernel
theorem dX6_shift_26 : decode cX6_shift 26 = .ok (.ifCond .ne 6, 3) := by decide +kernel
theorem dX6_shift_29 : decode cX6_shift 29 = .ok (.bipush (-100), 2) := by decide +kernel
theorem dX6_shift_31 : decode cX6_shift 31 = .ok (.ireturn, 1) := by decide +kernel
theorem dX6_shift_32 : decode cX6_shift 32 = .ok (.aload_n 0, 1) := by decide +kernel
theorem dX6_shift_33 : decode cX6_shift 33 = .ok (.iload_n 1, 1) := by decide +kernel
theorem dX6_shift_34 : decode cX6_shift 34 = .ok (.iload_n 2, 1) := by decide +kernel
theorem dX6_shift_35 : decode cX6_shift 35 = .ok (.invokevirtual 131, 3) := by decide +kernel
theorem dX6_shift_38 : decode cX6_shift 38 = .ok (.istore 4, 2) := by decide +kernel
theorem dX6_shift_40 : decode cX6_shift 40 = .ok (.iload_n 3, 1) := by decide +kernel
theorem dX6_shift_41 : decode cX6_shift 41 = .ok (.ifCond .ne 8, 3) := by decide +kernel
theorem dX6_shift_44 : decode cX6_shift 44 = .ok (.iload 4, 2) := by decide +kernel
theorem dX6_shift_46 : decode cX6_shift 46 = .ok (.goto 11, 3) := by decide +kernel
theorem dX6_shift_49 : decode cX6_shift 49 = .ok (.aload_n 0, 1) := by decide +kernel
theorem dX6_shift_50 : decode cX6_shift 50 = .ok (.iload_n 1, 1) := by decide +kernel
theorem dX6_shift_51 : decode cX6_shift 51 = .ok (.iload_n 2, 1) := by decide +kernel
theorem dX6_shift_52 : decode cX6_shift 52 = .ok (.iload 4, 2) := by decide +kernel
theorem dX6_shift_54 : decode cX6_shift 54 = .ok (.invokevirtual 127, 3) := by decide +kernel
theorem dX6_shift_57 : decode cX6_shift 57 = .ok (.ireturn, 1) := by decide +kernel
theorem dX6_most_0 : decode cX6_most 0 = .ok (.aload_n 0, 1) := by decide +kernel
theorem dX6_most_1 : decode cX6_most 1 = .ok (.iload_n 1, 1) := by decide +kernel
theorem dX6_most_2 : decode cX6_most 2 = .ok (.iload_n 2, 1) := by decide +kernel
theorem dX6_most_3 : decode cX6_most 3 = .ok (.aload_n 0, 1) := by decide +kernel
theorem dX6_most_4 : decode cX6_most 4 = .ok (.iload_n 1, 1) := by decide +kernel
theorem dX6_most_5 : decode cX6_most 5 = .ok (.iload_n 2, 1) := by decide +kernel
theorem dX6_most_6 : decode cX6_most 6 = .ok (.invokevirtual 131, 3) := by decide +kernel
theorem dX6_most_9 : decode cX6_most 9 = .ok (.invokevirtual 127, 3) := by decide +kernel
theorem dX6_most_12 : decode cX6_most 12 = .ok (.ireturn, 1) := by decide +kernel
theorem dX6_home_0 : decode cX6_home 0 = .ok (.aload_n 0, 1) := by decide +kernel
theorem dX6_home_1 : decode cX6_home 1 = .ok (.iconst 0, 1) := by decide +kernel
theorem dX6_home_2 : decode cX6_home 2 = .ok (.putfield 61, 3) := by decide +kernel
theorem dX6_home_5 : decode cX6_home 5 = .ok (.aload_n 0, 1) := by decide +kernel
theorem dX6_home_6 : decode cX6_home 6 = .ok (.iload_n 1, 1) := by decide +kernel
theorem dX6_home_7 : decode cX6_home 7 = .ok (.invokevirtual 91, 3) := by decide +kernel
theorem dX6_home_10 : decode cX6_home 10 = .ok (.ifCond .eq 12, 3) := by decide +kernel
theorem dX6_home_13 : decode cX6_home 13 = .ok (.iload_n 2, 1) := by decide +kernel
theorem dX6_home_14 : decode cX6_home 14 = .ok (.iconst 0, 1) := by decide +kernel
theorem dX6_home_15 : decode cX6_home 15 = .ok (.iconst 1, 1) := by decide +kernel
theorem dX6_home_16 : decode cX6_home 16 = .ok (.invokestatic 65, 3) := by decide +kernel
theorem dX6_home_19 : decode cX6_home 19 = .ok (.ifCond .ne 5, 3) := by decide +kernel
theorem dX6_home_22 : decode cX6_home 22 = .ok (.iconst (-1), 1) := by decide +kernel
theorem dX6_home_23 : decode cX6_home 23 = .ok (.ireturn, 1) := by decide +kernel
theorem dX6_home_24 : decode cX6_home 24 = .ok (.bipush (-9), 2) := by decide +kernel
theorem dX6_home_26 : decode cX6_home 26 = .ok (.istore_n 3, 1) := by decide +kernel
theorem dX6_home_27 : decode cX6_home 27 = .ok (.iconst 1, 1) := by decide +kernel
theorem dX6_home_28 : decode cX6_home 28 = .ok (.istore 4, 2) := by decide +kernel
theorem dX6_home_30 : decode cX6_home 30 = .ok (.iconst 0, 1) := by decide +kernel
theorem dX6_home_31 : decode cX6_home 31 = .ok (.istore 5, 2) := by decide +kernel
theorem dX6_home_33 : decode cX6_home 33 = .ok (.iload 5, 2) := by decide +kernel
theorem dX6_home_35 : decode cX6_home 35 = .ok (.iconst 4, 1) := by decide +kernel
theorem dX6_home_36 : decode cX6_home 36 = .ok (.if_icmp .ge 32, 3) := by decide +kernel
theorem dX6_home_39 : decode cX6_home 39 = .ok (.aload_n 0, 1) := by decide +kernel
theorem dX6_home_40 : decode cX6_home 40 = .ok (.iload_n 1, 1) := by decide +kernel
theorem dX6_home_41 : decode cX6_home 41 = .ok (.iload 5, 2) := by decide +kernel
theorem dX6_home_43 : decode cX6_home 43 = .ok (.invokevirtual 134, 3) := by decide +kernel
theorem dX6_home_46 : decode cX6_home 46 = .ok (.istore 6, 2) := by decide +kernel
theorem dX6_home_48 : decode cX6_home 48 = .ok (.iload 6, 2) := by decide +kernel
theorem dX6_home_50 : decode cX6_home 50 = .ok (.iload 4, 2) := by decide +kernel
theorem dX6_home_52 : decode cX6_home 52 = .ok (.if_icmp .le 10, 3) := by decide +kernel
theorem dX6_home_55 : decode cX6_home 55 = .ok (.iload 6, 2) := by decide +kernel
theorem dX6_home_57 : decode cX6_home 57 = .ok (.istore 4, 2) := by decide +kernel
theorem dX6_home_59 : decode cX6_home 59 = .ok (.iload 5, 2) := by decide +kernel
theorem dX6_home_61 : decode cX6_home 61 = .ok (.istore_n 3, 1) := by decide +kernel
theorem dX6_home_62 : decode cX6_home 62 = .ok (.iinc 5 1, 3) := by decide +kernel
theorem dX6_home_65 : decode cX6_home 65 = .ok (.goto (-32), 3) := by decide +kernel
theorem dX6_home_68 : decode cX6_home 68 = .ok (.iload_n 3, 1) := by decide +kernel
theorem dX6_home_69 : decode cX6_home 69 = .ok (.bipush (-9), 2) := by decide +kernel
theorem dX6_home_71 : decode cX6_home 71 = .ok (.if_icmp .eq 7, 3) := by decide +kernel
theorem dX6_home_74 : decode cX6_home 74 = .ok (.iload_n 2, 1) := by decide +kernel
theorem dX6_home_75 : decode cX6_home 75 = .ok (.ifCond .ne 5, 3) := by decide +kernel
theorem dX6_home_78 : decode cX6_home 78 = .ok (.iload_n 3, 1) := by decide +kernel
theorem dX6_home_79 : decode cX6_home 79 = .ok (.ireturn, 1) := by decide +kernel
theorem dX6_home_80 : decode cX6_home 80 = .ok (.iconst 0, 1) := by decide +kernel
theorem dX6_home_81 : decode cX6_home 81 = .ok (.istore 5, 2) := by decide +kernel
theorem dX6_home_83 : decode cX6_home 83 = .ok (.iconst 0, 1) := by decide +kernel
theorem dX6_home_84 : decode cX6_home 84 = .ok (.istore 6, 2) := by decide +kernel
theorem dX6_home_86 : decode cX6_home 86 = .ok (.iload 6, 2) := by decide +kernel
theorem dX6_home_88 : decode cX6_home 88 = .ok (.aload_n 0, 1) := by decide +kernel
theorem dX6_home_89 : decode cX6_home 89 = .ok (.getfield 88, 3) := by decide +kernel
theorem dX6_home_92 : decode cX6_home 92 = .ok (.if_icmp .ge 37, 3) := by decide +kernel
theorem dX6_home_95 : decode cX6_home 95 = .ok (.iload 5, 2) := by decide +kernel
theorem dX6_home_97 : decode cX6_home 97 = .ok (.iload 6, 2) := by decide +kernel
theorem dX6_home_99 : decode cX6_home 99 = .ok (.iload_n 1, 1) := by decide +kernel
theorem dX6_home_100 : decode cX6_home 100 = .ok (.if_icmp .eq 19, 3) := by decide +kernel
theorem dX6_home_103 : decode cX6_home 103 = .ok (.aload_n 0, 1) := by decide +kernel
theorem dX6_home_104 : decode cX6_home 104 = .ok (.iload 6, 2) := by decide +kernel
theorem dX6_home_106 : decode cX6_home 106 = .ok (.iload_n 3, 1) := by decide +kernel
theorem dX6_home_107 : decode cX6_home 107 = .ok (.invokevirtual 134, 3) := by decide +kernel
theorem dX6_home_110 : decode cX6_home 110 = .ok (.iload 4, 2) := by decide +kernel
theorem dX6_home_112 : decode cX6_home 112 = .ok (.if_icmp .lt 7, 3) := by decide +kernel
theorem dX6_home_115 : decode cX6_home 115 = .ok (.iconst 1, 1) := by decide +kernel
theorem dX6_home_116 : decode cX6_home 116 = .ok (.goto 4, 3) := by decide +kernel
theorem dX6_home_119 : decode cX6_home 119 = .ok (.iconst 0, 1) := by decide +kernel
theorem dX6_home_120 : decode cX6_home 120 = .ok (.iadd, 1) := by decide +kernel
theorem dX6_home_121 : decode cX6_home 121 = .ok (.istore 5, 2) := by decide +kernel
theorem dX6_home_123 : decode cX6_home 123 = .ok (.iinc 6 1, 3) := by decide +kernel
theorem dX6_home_126 : decode cX6_home 126 = .ok (.goto (-40), 3) := by decide +kernel
theorem dX6_home_129 : decode cX6_home 129 = .ok (.iload 5, 2) := by decide +kernel
theorem dX6_home_131 : decode cX6_home 131 = .ok (.ireturn, 1) := by decide +kernel
theorem dX6_count_0 : decode cX6_count 0 = .ok (.aload_n 0, 1) := by decide +kernel
theorem dX6_count_1 : decode cX6_count 1 = .ok (.iconst 0, 1) := by decide +kernel
theorem dX6_count_2 : decode cX6_count 2 = .ok (.putfield 61, 3) := by decide +kernel
theorem dX6_count_5 : decode cX6_count 5 = .ok (.iconst 0, 1) := by decide +kernel
theorem dX6_count_6 : decode cX6_count 6 = .ok (.istore_n 2, 1) := by decide +kernel
theorem dX6_count_7 : decode cX6_count 7 = .ok (.iconst 0, 1) := by decide +kernel
theorem dX6_count_8 : decode cX6_count 8 = .ok (.istore_n 3, 1) := by decide +kernel
theorem dX6_count_9 : decode cX6_count 9 = .ok (.iconst 0, 1) := by decide +kernel
theorem dX6_count_10 : decode cX6_count 10 = .ok (.istore 4, 2) := by decide +kernel
theorem dX6_count_12 : decode cX6_count 12 = .ok (.iload 4, 2) := by decide +kernel
theorem dX6_count_14 : decode cX6_count 14 = .ok (.aload_n 0, 1) := by decide +kernel
theorem dX6_count_15 : decode cX6_count 15 = .ok (.getfield 88, 3) := by decide +kernel
theorem dX6_count_18 : decode cX6_count 18 = .ok (.if_icmp .ge 47, 3) := by decide +kernel
theorem dX6_count_21 : decode cX6_count 21 = .ok (.aload_n 0, 1) := by decide +kernel
theorem dX6_count_22 : decode cX6_count 22 = .ok (.iload 4, 2) := by decide +kernel
theorem dX6_count_24 : decode cX6_count 24 = .ok (.invokevirtual 94, 3) := by decide +kernel
theorem dX6_count_27 : decode cX6_count 27 = .ok (.invokestatic 76, 3) := by decide +kernel
theorem dX6_count_30 : decode cX6_count 30 = .ok (.istore 5, 2) := by decide +kernel
theorem dX6_count_32 : decode cX6_count 32 = .ok (.iload_n 2, 1) := by decide +kernel
theorem dX6_count_33 : decode cX6_count 33 = .ok (.iload 5, 2) := by decide +kernel
theorem dX6_count_35 : decode cX6_count 35 = .ok (.ifCond .ne 7, 3) := by decide +kernel
theorem dX6_count_38 : decode cX6_count 38 = .ok (.iconst 1, 1) := by decide +kernel
theorem dX6_count_39 : decode cX6_count 39 = .ok (.goto 4, 3) := by decide +kernel
theorem dX6_count_42 : decode cX6_count 42 = .ok (.iconst 0, 1) := by decide +kernel
theorem dX6_count_43 : decode cX6_count 43 = .ok (.iadd, 1) := by decide +kernel
theorem dX6_count_44 : decode cX6_count 44 = .ok (.istore_n 2, 1) := by decide +kernel
theorem dX6_count_45 : decode cX6_count 45 = .ok (.iload_n 3, 1) := by decide +kernel
theorem dX6_count_46 : decode cX6_count 46 = .ok (.iload 5, 2) := by decide +kernel
theorem dX6_count_48 : decode cX6_count 48 = .ok (.iconst 1, 1) := by decide +kernel
theorem dX6_count_49 : decode cX6_count 49 = .ok (.if_icmp .ne 7, 3) := by decide +kernel
theorem dX6_count_52 : decode cX6_count 52 = .ok (.iconst 1, 1) := by decide +kernel
theorem dX6_count_53 : decode cX6_count 53 = .ok (.goto 4, 3) := by decide +kernel
theorem dX6_count_56 : decode cX6_count 56 = .ok (.iconst 0, 1) := by decide +kernel
theorem dX6_count_57 : decode cX6_count 57 = .ok (.iadd, 1) := by decide +kernel
theorem dX6_count_58 : decode cX6_count 58 = .ok (.istore_n 3, 1) := by decide +kernel
theorem dX6_count_59 : decode cX6_count 59 = .ok (.iinc 4 1, 3) := by decide +kernel
theorem dX6_count_62 : decode cX6_count 62 = .ok (.goto (-50), 3) := by decide +kernel
theorem dX6_count_65 : decode cX6_count 65 = .ok (.iload_n 1, 1) := by decide +kernel
theorem dX6_count_66 : decode cX6_count 66 = .ok (.tableswitch 62 0 5 #[38, 43, 48, 53, 58, 60], 38) := by decide +kernel
theorem dX6_count_104 : decode cX6_count 104 = .ok (.aload_n 0, 1) := by decide +kernel
theorem dX6_count_105 : decode cX6_count 105 = .ok (.getfield 73, 3) := by decide +kernel
theorem dX6_count_108 : decode cX6_count 108 = .ok (.ireturn, 1) := by decide +kernel
theorem dX6_count_109 : decode cX6_count 109 = .ok (.aload_n 0, 1) := by decide +kernel
theorem dX6_count_110 : decode cX6_count 110 = .ok (.getfield 88, 3) := by decide +kernel
theorem dX6_count_113 : decode cX6_count 113 = .ok (.ireturn, 1) := by decide +kernel
theorem dX6_count_114 : decode cX6_count 114 = .ok (.aload_n 0, 1) := by decide +kernel
theorem dX6_count_115 : decode cX6_count 115 = .ok (.getfield 97, 3) := by decide +kernel
theorem dX6_count_118 : decode cX6_count 118 = .ok (.ireturn, 1) := by decide +kernel
theorem dX6_count_119 : decode cX6_count 119 = .ok (.aload_n 0, 1) := by decide +kernel
theorem dX6_count_120 : decode cX6_count 120 = .ok (.getfield 108, 3) := by decide +kernel
theorem dX6_count_123 : decode cX6_count 123 = .ok (.ireturn, 1) := by decide +kernel
theorem dX6_count_124 : decode cX6_count 124 = .ok (.iload_n 2, 1) := by decide +kernel
theorem dX6_count_125 : decode cX6_count 125 = .ok (.ireturn, 1) := by decide +kernel
theorem dX6_count_126 : decode cX6_count 126 = .ok (.iload_n 3, 1) := by decide +kernel
theorem dX6_count_127 : decode cX6_count 127 = .ok (.ireturn, 1) := by decide +kernel
theorem dX6_count_128 : decode cX6_count 128 = .ok (.iconst (-1), 1) := by decide +kernel
theorem dX6_count_129 : decode cX6_count 129 = .ok (.ireturn, 1) := by decide +kernel
theorem dX6_trace_0 : decode cX6_trace 0 = .ok (.aload_n 0, 1) := by decide +kernel
theorem dX6_trace_1 : decode cX6_trace 1 = .ok (.iconst 0, 1) := by decide +kernel
theorem dX6_trace_2 : decode cX6_trace 2 = .ok (.putfield 61, 3) := by decide +kernel
theorem dX6_trace_5 : decode cX6_trace 5 = .ok (.aload_n 0, 1) := by decide +kernel
theorem dX6_trace_6 : decode cX6_trace 6 = .ok (.getfield 100, 3) := by decide +kernel
theorem dX6_trace_9 : decode cX6_trace 9 = .ok (.lreturn, 1) := by decide +kernel
