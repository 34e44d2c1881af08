theorem dX7_init_0 : decode cX7_init 0 = .ok (.aload_n 0, 1) := by decide +kernel
theorem dX7_init_1 : decode cX7_init 1 = .ok (.invokespecial 1, 3) := by decide +kernel
theorem dX7_init_4 : decode cX7_init 4 = .ok (.aload_n 0, 1) := by decide +kernel
theorem dX7_init_5 : decode cX7_init 5 = .ok (.sipush 240, 3) := by decide +kernel
theorem dX7_init_8 : decode cX7_init 8 = .ok (.newarray .int, 2) := by decide +kernel
theorem dX7_init_10 : decode cX7_init 10 = .ok (.putfield 7, 3) := by decide +kernel
theorem dX7_init_13 : decode cX7_init 13 = .ok (.aload_n 0, 1) := by decide +kernel
theorem dX7_init_14 : decode cX7_init 14 = .ok (.bipush 24, 2) := by decide +kernel
theorem dX7_init_16 : decode cX7_init 16 = .ok (.newarray .int, 2) := by decide +kernel
theorem dX7_init_18 : decode cX7_init 18 = .ok (.putfield 13, 3) := by decide +kernel
theorem dX7_init_21 : decode cX7_init 21 = .ok (.aload_n 0, 1) := by decide +kernel
theorem dX7_init_22 : decode cX7_init 22 = .ok (.bipush 8, 2) := by decide +kernel
theorem dX7_init_24 : decode cX7_init 24 = .ok (.newarray .int, 2) := by decide +kernel
theorem dX7_init_26 : decode cX7_init 26 = .ok (.putfield 16, 3) := by decide +kernel
theorem dX7_init_29 : decode cX7_init 29 = .ok (.aload_n 0, 1) := by decide +kernel
theorem dX7_init_30 : decode cX7_init 30 = .ok (.bipush 8, 2) := by decide +kernel
theorem dX7_init_32 : decode cX7_init 32 = .ok (.newarray .int, 2) := by decide +kernel
theorem dX7_init_34 : decode cX7_init 34 = .ok (.putfield 19, 3) := by decide +kernel
theorem dX7_init_37 : decode cX7_init 37 = .ok (.aload_n 0, 1) := by decide +kernel
theorem dX7_init_38 : decode cX7_init 38 = .ok (.bipush 64, 2) := by decide +kernel
theorem dX7_init_40 : decode cX7_init 40 = .ok (.newarray .boolean, 2) := by decide +kernel
theorem dX7_init_42 : decode cX7_init 42 = .ok (.putfield 22, 3) := by decide +kernel
theorem dX7_init_45 : decode cX7_init 45 = .ok (.aload_n 0, 1) := by decide +kernel
theorem dX7_init_46 : decode cX7_init 46 = .ok (.bipush 8, 2) := by decide +kernel
theorem dX7_init_48 : decode cX7_init 48 = .ok (.newarray .int, 2) := by decide +kernel
theorem dX7_init_50 : decode cX7_init 50 = .ok (.putfield 26, 3) := by decide +kernel
theorem dX7_init_53 : decode cX7_init 53 = .ok (.aload_n 0, 1) := by decide +kernel
theorem dX7_init_54 : decode cX7_init 54 = .ok (.bipush 8, 2) := by decide +kernel
theorem dX7_init_56 : decode cX7_init 56 = .ok (.newarray .int, 2) := by decide +kernel
theorem dX7_init_58 : decode cX7_init 58 = .ok (.putfield 29, 3) := by decide +kernel
theorem dX7_init_61 : decode cX7_init 61 = .ok (.aload_n 0, 1) := by decide +kernel
theorem dX7_init_62 : decode cX7_init 62 = .ok (.bipush 8, 2) := by decide +kernel
theorem dX7_init_64 : decode cX7_init 64 = .ok (.newarray .int, 2) := by decide +kernel
theorem dX7_init_66 : decode cX7_init 66 = .ok (.putfield 32, 3) := by decide +kernel
theorem dX7_init_69 : decode cX7_init 69 = .ok (.aload_n 0, 1) := by decide +kernel
theorem dX7_init_70 : decode cX7_init 70 = .ok (.bipush 8, 2) := by decide +kernel
theorem dX7_init_72 : decode cX7_init 72 = .ok (.newarray .boolean, 2) := by decide +kernel
theorem dX7_init_74 : decode cX7_init 74 = .ok (.putfield 35, 3) := by decide +kernel
theorem dX7_init_77 : decode cX7_init 77 = .ok (.aload_n 0, 1) := by decide +kernel
theorem dX7_init_78 : decode cX7_init 78 = .ok (.bipush 8, 2) := by decide +kernel
theorem dX7_init_80 : decode cX7_init 80 = .ok (.newarray .int, 2) := by decide +kernel
theorem dX7_init_82 : decode cX7_init 82 = .ok (.putfield 38, 3) := by decide +kernel
theorem dX7_init_85 : decode cX7_init 85 = .ok (.aload_n 0, 1) := by decide +kernel
theorem dX7_init_86 : decode cX7_init 86 = .ok (.bipush 64, 2) := by decide +kernel
theorem dX7_init_88 : decode cX7_init 88 = .ok (.newarray .int, 2) := by decide +kernel
theorem dX7_init_90 : decode cX7_init 90 = .ok (.putfield 41, 3) := by decide +kernel
theorem dX7_init_93 : decode cX7_init 93 = .ok (.aload_n 0, 1) := by decide +kernel
theorem dX7_init_94 : decode cX7_init 94 = .ok (.bipush 32, 2) := by decide +kernel
theorem dX7_init_96 : decode cX7_init 96 = .ok (.newarray .boolean, 2) := by decide +kernel
theorem dX7_init_98 : decode cX7_init 98 = .ok (.putfield 44, 3) := by decide +kernel
theorem dX7_init_101 : decode cX7_init 101 = .ok (.aload_n 0, 1) := by decide +kernel
theorem dX7_init_102 : decode cX7_init 102 = .ok (.sipush 256, 3) := by decide +kernel
theorem dX7_init_105 : decode cX7_init 105 = .ok (.newarray .long, 2) := by decide +kernel
theorem dX7_init_107 : decode cX7_init 107 = .ok (.putfield 47, 3) := by decide +kernel
theorem dX7_init_110 : decode cX7_init 110 = .ok (.aload_n 0, 1) := by decide +kernel
theorem dX7_init_111 : decode cX7_init 111 = .ok (.sipush 256, 3) := by decide +kernel
theorem dX7_init_114 : decode cX7_init 114 = .ok (.newarray .long, 2) := by decide +kernel
theorem dX7_init_116 : decode cX7_init 116 = .ok (.putfield 51, 3) := by decide +kernel
theorem dX7_init_119 : decode cX7_init 119 = .ok (.aload_n 0, 1) := by decide +kernel
theorem dX7_init_120 : decode cX7_init 120 = .ok (.bipush 8, 2) := by decide +kernel
theorem dX7_init_122 : decode cX7_init 122 = .ok (.newarray .int, 2) := by decide +kernel
theorem dX7_init_124 : decode cX7_init 124 = .ok (.putfield 54, 3) := by decide +kernel
theorem dX7_init_127 : decode cX7_init 127 = .ok (.aload_n 0, 1) := by decide +kernel
theorem dX7_init_128 : decode cX7_init 128 = .ok (.bipush 8, 2) := by decide +kernel
theorem dX7_init_130 : decode cX7_init 130 = .ok (.newarray .int, 2) := by decide +kernel
theorem dX7_init_132 : decode cX7_init 132 = .ok (.putfield 57, 3) := by decide +kernel
theorem dX7_init_135 : decode cX7_init 135 = .ok (.aload_n 0, 1) := by decide +kernel
theorem dX7_init_136 : decode cX7_init 136 = .ok (.bipush 8, 2) := by decide +kernel
theorem dX7_init_138 : decode cX7_init 138 = .ok (.newarray .int, 2) := by decide +kernel
theorem dX7_init_140 : decode cX7_init 140 = .ok (.putfield 60, 3) := by decide +kernel
theorem dX7_init_143 : decode cX7_init 143 = .ok (.aload_n 0, 1) := by decide +kernel
theorem dX7_init_144 : decode cX7_init 144 = .ok (.bipush 8, 2) := by decide +kernel
theorem dX7_init_146 : decode cX7_init 146 = .ok (.newarray .long, 2) := by decide +kernel
theorem dX7_init_148 : decode cX7_init 148 = .ok (.putfield 63, 3) := by decide +kernel
theorem dX7_init_151 : decode cX7_init 151 = .ok (.aload_n 0, 1) := by decide +kernel
theorem dX7_init_152 : decode cX7_init 152 = .ok (.bipush 8, 2) := by decide +kernel
theorem dX7_init_154 : decode cX7_init 154 = .ok (.newarray .int, 2) := by decide +kernel
theorem dX7_init_156 : decode cX7_init 156 = .ok (.putfield 66, 3) := by decide +kernel
theorem dX7_init_159 : decode cX7_init 159 = .ok (.aload_n 0, 1) := by decide +kernel
theorem dX7_init_160 : decode cX7_init 160 = .ok (.sipush 4008, 3) := by decide +kernel
theorem dX7_init_163 : decode cX7_init 163 = .ok (.newarray .int, 2) := by decide +kernel
theorem dX7_init_165 : decode cX7_init 165 = .ok (.putfield 69, 3) := by decide +kernel
theorem dX7_init_168 : decode cX7_init 168 = .ok (.aload_n 0, 1) := by decide +kernel
theorem dX7_init_169 : decode cX7_init 169 = .ok (.sipush 501, 3) := by decide +kernel
theorem dX7_init_172 : decode cX7_init 172 = .ok (.newarray .int, 2) := by decide +kernel
theorem dX7_init_174 : decode cX7_init 174 = .ok (.putfield 72, 3) := by decide +kernel
theorem dX7_init_177 : decode cX7_init 177 = .ok (.aload_n 0, 1) := by decide +kernel
theorem dX7_init_178 : decode cX7_init 178 = .ok (.sipush 4008, 3) := by decide +kernel
theorem dX7_init_181 : decode cX7_init 181 = .ok (.newarray .int, 2) := by decide +kernel
theorem dX7_init_183 : decode cX7_init 183 = .ok (.putfield 75, 3) := by decide +kernel
theorem dX7_init_186 : decode cX7_init 186 = .ok (.aload_n 0, 1) := by decide +kernel
theorem dX7_init_187 : decode cX7_init 187 = .ok (.sipush 501, 3) := by decide +kernel
theorem dX7_init_190 : decode cX7_init 190 = .ok (.newarray .int, 2) := by decide +kernel
theorem dX7_init_192 : decode cX7_init 192 = .ok (.putfield 78, 3) := by decide +kernel
theorem dX7_init_195 : decode cX7_init 195 = .ok (.aload_n 0, 1) := by decide +kernel
theorem dX7_init_196 : decode cX7_init 196 = .ok (.sipush 4008, 3) := by decide +kernel
theorem dX7_init_199 : decode cX7_init 199 = .ok (.newarray .int, 2) := by decide +kernel
theorem dX7_init_201 : decode cX7_init 201 = .ok (.putfield 81, 3) := by decide +kernel
theorem dX7_init_204 : decode cX7_init 204 = .ok (.aload_n 0, 1) := by decide +kernel
theorem dX7_init_205 : decode cX7_init 205 = .ok (.sipush 501, 3) := by decide +kernel
theorem dX7_init_208 : decode cX7_init 208 = .ok (.newarray .boolean, 2) := by decide +kernel
theorem dX7_init_210 : decode cX7_init 210 = .ok (.putfield 84, 3) := by decide +kernel
theorem dX7_init_213 : decode cX7_init 213 = .ok (.return_, 1) := by decide +kernel
theorem dX7_isTerm_0 : decode cX7_isTerm 0 = .ok (.iload_n 0, 1) := by decide +kernel
theorem dX7_isTerm_1 : decode cX7_isTerm 1 = .ok (.ifCond .lt 13, 3) := by decide +kernel
theorem dX7_isTerm_14 : decode cX7_isTerm 14 = .ok (.iconst 0, 1) := by decide +kernel
theorem dX7_isTerm_15 : decode cX7_isTerm 15 = .ok (.ireturn, 1) := by decide +kernel
theorem dX7_isTerm_4 : decode cX7_isTerm 4 = .ok (.iload_n 0, 1) := by decide +kernel
theorem dX7_isTerm_5 : decode cX7_isTerm 5 = .ok (.bipush 32, 2) := by decide +kernel
theorem dX7_isTerm_7 : decode cX7_isTerm 7 = .ok (.if_icmp .ge 7, 3) := by decide +kernel
theorem dX7_isTerm_10 : decode cX7_isTerm 10 = .ok (.iconst 1, 1) := by decide +kernel
theorem dX7_isTerm_11 : decode cX7_isTerm 11 = .ok (.goto 4, 3) := by decide +kernel
theorem dX7_triple_0 : decode cX7_triple 0 = .ok (.iload_n 1, 1) := by decide +kernel
theorem dX7_triple_1 : decode cX7_triple 1 = .ok (.invokestatic 91, 3) := by decide +kernel
theorem dX7_triple_4 : decode cX7_triple 4 = .ok (.ifCond .eq 17, 3) := by decide +kernel
theorem dX7_triple_21 : decode cX7_triple 21 = .ok (.bipush (-2), 2) := by decide +kernel
theorem dX7_triple_23 : decode cX7_triple 23 = .ok (.ireturn, 1) := by decide +kernel
theorem dX7_triple_7 : decode cX7_triple 7 = .ok (.iload_n 2, 1) := by decide +kernel
theorem dX7_triple_8 : decode cX7_triple 8 = .ok (.invokestatic 91, 3) := by decide +kernel
theorem dX7_triple_11 : decode cX7_triple 11 = .ok (.ifCond .eq 10, 3) := by decide +kernel
theorem dX7_triple_14 : decode cX7_triple 14 = .ok (.iload_n 3, 1) := by decide +kernel
theorem dX7_triple_15 : decode cX7_triple 15 = .ok (.invokestatic 91, 3) := by decide +kernel
theorem dX7_triple_18 : decode cX7_triple 18 = .ok (.ifCond .ne 6, 3) := by decide +kernel
theorem dX7_triple_24 : decode cX7_triple 24 = .ok (.iconst 0, 1) := by decide +kernel
theorem dX7_triple_25 : decode cX7_triple 25 = .ok (.istore 4, 2) := by decide +kernel
theorem dX7_triple_27 : decode cX7_triple 27 = .ok (.iload 4, 2) := by decide +kernel
theorem dX7_triple_29 : decode cX7_triple 29 = .ok (.aload_n 0, 1) := by decide +kernel
theorem dX7_triple_30 : decode cX7_triple 30 = .ok (.getfield 95, 3) := by decide +kernel
theorem dX7_triple_33 : decode cX7_triple 33 = .ok (.if_icmp .ge 57, 3) := by decide +kernel
theorem dX7_triple_36 : decode cX7_triple 36 = .ok (.aload_n 0, 1) := by decide +kernel
theorem dX7_triple_37 : decode cX7_triple 37 = .ok (.getfield 7, 3) := by decide +kernel
theorem dX7_triple_40 : decode cX7_triple 40 = .ok (.iconst 3, 1) := by decide +kernel
theorem dX7_triple_41 : decode cX7_triple 41 = .ok (.iload 4, 2) := by decide +kernel
theorem dX7_triple_43 : decode cX7_triple 43 = .ok (.imul, 1) := by decide +kernel
theorem dX7_triple_44 : decode cX7_triple 44 = .ok (.iaload, 1) := by decide +kernel
theorem dX7_triple_45 : decode cX7_triple 45 = .ok (.iload_n 1, 1) := by decide +kernel
theorem dX7_triple_46 : decode cX7_triple 46 = .ok (.if_icmp .ne 38, 3) := by decide +kernel
theorem dX7_triple_84 : decode cX7_triple 84 = .ok (.iinc 4 1, 3) := by decide +kernel
theorem dX7_triple_87 : decode cX7_triple 87 = .ok (.goto (-60), 3) := by decide +kernel
theorem dX7_triple_49 : decode cX7_triple 49 = .ok (.aload_n 0, 1) := by decide +kernel
theorem dX7_triple_50 : decode cX7_triple 50 = .ok (.getfield 7, 3) := by decide +kernel
theorem dX7_triple_53 : decode cX7_triple 53 = .ok (.iconst 3, 1) := by decide +kernel
theorem dX7_triple_54 : decode cX7_triple 54 = .ok (.iload 4, 2) := by decide +kernel
theorem dX7_triple_56 : decode cX7_triple 56 = .ok (.imul, 1) := by decide +kernel
theorem dX7_triple_57 : decode cX7_triple 57 = .ok (.iconst 1, 1) := by decide +kernel
theorem dX7_triple_58 : decode cX7_triple 58 = .ok (.iadd, 1) := by decide +kernel
theorem dX7_triple_59 : decode cX7_triple 59 = .ok (.iaload, 1) := by decide +kernel
theorem dX7_triple_60 : decode cX7_triple 60 = .ok (.iload_n 2, 1) := by decide +kernel
theorem dX7_triple_61 : decode cX7_triple 61 = .ok (.if_icmp .ne 23, 3) := by decide +kernel
theorem dX7_triple_64 : decode cX7_triple 64 = .ok (.aload_n 0, 1) := by decide +kernel
theorem dX7_triple_65 : decode cX7_triple 65 = .ok (.getfield 7, 3) := by decide +kernel
theorem dX7_triple_68 : decode cX7_triple 68 = .ok (.iconst 3, 1) := by decide +kernel
theorem dX7_triple_69 : decode cX7_triple 69 = .ok (.iload 4, 2) := by decide +kernel
theorem dX7_triple_71 : decode cX7_triple 71 = .ok (.imul, 1) := by decide +kernel
theorem dX7_triple_72 : decode cX7_triple 72 = .ok (.iconst 2, 1) := by decide +kernel
theorem dX7_triple_73 : decode cX7_triple 73 = .ok (.iadd, 1) := by decide +kernel
theorem dX7_triple_74 : decode cX7_triple 74 = .ok (.iaload, 1) := by decide +kernel
theorem dX7_triple_75 : decode cX7_triple 75 = .ok (.iload_n 3, 1) := by decide +kernel
theorem dX7_triple_76 : decode cX7_triple 76 = .ok (.if_icmp .ne 8, 3) := by decide +kernel
theorem dX7_triple_79 : decode cX7_triple 79 = .ok (.aload_n 0, 1) := by decide +kernel
theorem dX7_triple_80 : decode cX7_triple 80 = .ok (.getfield 95, 3) := by decide +kernel
theorem dX7_triple_83 : decode cX7_triple 83 = .ok (.ireturn, 1) := by decide +kernel
theorem dX7_triple_90 : decode cX7_triple 90 = .ok (.aload_n 0, 1) := by decide +kernel
theorem dX7_triple_91 : decode cX7_triple 91 = .ok (.getfield 95, 3) := by decide +kernel
theorem dX7_triple_94 : decode cX7_triple 94 = .ok (.bipush 80, 2) := by decide +kernel
theorem dX7_triple_96 : decode cX7_triple 96 = .ok (.if_icmp .ne 6, 3) := by decide +kernel
theorem dX7_triple_102 : decode cX7_triple 102 = .ok (.aload_n 0, 1) := by decide +kernel
theorem dX7_triple_103 : decode cX7_triple 103 = .ok (.getfield 7, 3) := by decide +kernel
theorem dX7_triple_106 : decode cX7_triple 106 = .ok (.iconst 3, 1) := by decide +kernel
theorem dX7_triple_107 : decode cX7_triple 107 = .ok (.aload_n 0, 1) := by decide +kernel
theorem dX7_triple_108 : decode cX7_triple 108 = .ok (.getfield 95, 3) := by decide +kernel
theorem dX7_triple_111 : decode cX7_triple 111 = .ok (.imul, 1) := by decide +kernel
theorem dX7_triple_112 : decode cX7_triple 112 = .ok (.iload_n 1, 1) := by decide +kernel
theorem dX7_triple_113 : decode cX7_triple 113 = .ok (.iastore, 1) := by decide +kernel
theorem dX7_triple_114 : decode cX7_triple 114 = .ok (.aload_n 0, 1) := by decide +kernel
theorem dX7_triple_115 : decode cX7_triple 115 = .ok (.getfield 7, 3) := by decide +kernel
theorem dX7_triple_118 : decode cX7_triple 118 = .ok (.iconst 3, 1) := by decide +kernel
theorem dX7_triple_119 : decode cX7_triple 119 = .ok (.aload_n 0, 1) := by decide +kernel
theorem dX7_triple_120 : decode cX7_triple 120 = .ok (.getfield 95, 3) := by decide +kernel
theorem dX7_triple_123 : decode cX7_triple 123 = .ok (.imul, 1) := by decide +kernel
theorem dX7_triple_124 : decode cX7_triple 124 = .ok (.iconst 1, 1) := by decide +kernel
theorem dX7_triple_125 : decode cX7_triple 125 = .ok (.iadd, 1) := by decide +kernel
theorem dX7_triple_126 : decode cX7_triple 126 = .ok (.iload_n 2, 1) := by decide +kernel
theorem dX7_triple_127 : decode cX7_triple 127 = .ok (.iastore, 1) := by decide +kernel
theorem dX7_triple_128 : decode cX7_triple 128 = .ok (.aload_n 0, 1) := by decide +kernel
theorem dX7_triple_129 : decode cX7_triple 129 = .ok (.getfield 7, 3) := by decide +kernel
theorem dX7_triple_132 : decode cX7_triple 132 = .ok (.iconst 3, 1) := by decide +kernel
theorem dX7_triple_133 : decode cX7_triple 133 = .ok (.aload_n 0, 1) := by decide +kernel
theorem dX7_triple_134 : decode cX7_triple 134 = .ok (.getfield 95, 3) := by decide +kernel
theorem dX7_triple_137 : decode cX7_triple 137 = .ok (.imul, 1) := by decide +kernel
theorem dX7_triple_138 : decode cX7_triple 138 = .ok (.iconst 2, 1) := by decide +kernel
theorem dX7_triple_139 : decode cX7_triple 139 = .ok (.iadd, 1) := by decide +kernel
theorem dX7_triple_140 : decode cX7_triple 140 = .ok (.iload_n 3, 1) := by decide +kernel
theorem dX7_triple_141 : decode cX7_triple 141 = .ok (.iastore, 1) := by decide +kernel
theorem dX7_triple_142 : decode cX7_triple 142 = .ok (.aload_n 0, 1) := by decide +kernel
theorem dX7_triple_143 : decode cX7_triple 143 = .ok (.dup, 1) := by decide +kernel
theorem dX7_triple_144 : decode cX7_triple 144 = .ok (.getfield 95, 3) := by decide +kernel
theorem dX7_triple_147 : decode cX7_triple 147 = .ok (.iconst 1, 1) := by decide +kernel
theorem dX7_triple_148 : decode cX7_triple 148 = .ok (.iadd, 1) := by decide +kernel
theorem dX7_triple_149 : decode cX7_triple 149 = .ok (.putfield 95, 3) := by decide +kernel
theorem dX7_triple_152 : decode cX7_triple 152 = .ok (.aload_n 0, 1) := by decide +kernel
theorem dX7_triple_153 : decode cX7_triple 153 = .ok (.getfield 95, 3) := by decide +kernel
theorem dX7_triple_156 : decode cX7_triple 156 = .ok (.ireturn, 1) := by decide +kernel
theorem dX7_triple_99 : decode cX7_triple 99 = .ok (.bipush (-4), 2) := by decide +kernel
theorem dX7_triple_101 : decode cX7_triple 101 = .ok (.ireturn, 1) := by decide +kernel
theorem dX7_isVariable_0 : decode cX7_isVariable 0 = .ok (.iload_n 0, 1) := by decide +kernel
theorem dX7_isVariable_1 : decode cX7_isVariable 1 = .ok (.iconst (-1), 1) := by decide +kernel
theorem dX7_isVariable_2 : decode cX7_isVariable 2 = .ok (.if_icmp .gt 13, 3) := by decide +kernel
theorem dX7_isVariable_15 : decode cX7_isVariable 15 = .ok (.iconst 0, 1) := by decide +kernel
theorem dX7_isVariable_16 : decode cX7_isVariable 16 = .ok (.ireturn, 1) := by decide +kernel
theorem dX7_isVariable_5 : decode cX7_isVariable 5 = .ok (.iload_n 0, 1) := by decide +kernel
theorem dX7_isVariable_6 : decode cX7_isVariable 6 = .ok (.bipush (-8), 2) := by decide +kernel
theorem dX7_isVariable_8 : decode cX7_isVariable 8 = .ok (.if_icmp .lt 7, 3) := by decide +kernel
theorem dX7_isVariable_11 : decode cX7_isVariable 11 = .ok (.iconst 1, 1) := by decide +kernel
theorem dX7_isVariable_12 : decode cX7_isVariable 12 = .ok (.goto 4, 3) := by decide +kernel
theorem dX7_isCell_0 : decode cX7_isCell 0 = .ok (.iload_n 0, 1) := by decide +kernel
theorem dX7_isCell_1 : decode cX7_isCell 1 = .ok (.invokestatic 91, 3) := by decide +kernel
theorem dX7_isCell_4 : decode cX7_isCell 4 = .ok (.ifCond .ne 10, 3) := by decide +kernel
theorem dX7_isCell_14 : decode cX7_isCell 14 = .ok (.iconst 1, 1) := by decide +kernel
theorem dX7_isCell_15 : decode cX7_isCell 15 = .ok (.goto 4, 3) := by decide +kernel
theorem dX7_isCell_19 : decode cX7_isCell 19 = .ok (.ireturn, 1) := by decide +kernel
theorem dX7_isCell_7 : decode cX7_isCell 7 = .ok (.iload_n 0, 1) := by decide +kernel
theorem dX7_isCell_8 : decode cX7_isCell 8 = .ok (.invokestatic 98, 3) := by decide +kernel
theorem dX7_isCell_11 : decode cX7_isCell 11 = .ok (.ifCond .eq 7, 3) := by decide +kernel
theorem dX7_isCell_18 : decode cX7_isCell 18 = .ok (.iconst 0, 1) := by decide +kernel
theorem dX7_pattern_0 : decode cX7_pattern 0 = .ok (.iload_n 1, 1) := by decide +kernel
theorem dX7_pattern_1 : decode cX7_pattern 1 = .ok (.invokestatic 101, 3) := by decide +kernel
theorem dX7_pattern_4 : decode cX7_pattern 4 = .ok (.ifCond .eq 17, 3) := by decide +kernel
theorem dX7_pattern_21 : decode cX7_pattern 21 = .ok (.bipush (-2), 2) := by decide +kernel
theorem dX7_pattern_23 : decode cX7_pattern 23 = .ok (.ireturn, 1) := by decide +kernel
theorem dX7_pattern_7 : decode cX7_pattern 7 = .ok (.iload_n 2, 1) := by decide +kernel
theorem dX7_pattern_8 : decode cX7_pattern 8 = .ok (.invokestatic 101, 3) := by decide +kernel
theorem dX7_pattern_11 : decode cX7_pattern 11 = .ok (.ifCond .eq 10, 3) := by decide +kernel
theorem dX7_pattern_14 : decode cX7_pattern 14 = .ok (.iload_n 3, 1) := by decide +kernel
theorem dX7_pattern_15 : decode cX7_pattern 15 = .ok (.invokestatic 101, 3) := by decide +kernel
theorem dX7_pattern_18 : decode cX7_pattern 18 = .ok (.ifCond .ne 6, 3) := by decide +kernel
theorem dX7_pattern_24 : decode cX7_pattern 24 = .ok (.aload_n 0, 1) := by decide +kernel
theorem dX7_pattern_25 : decode cX7_pattern 25 = .ok (.getfield 87, 3) := by decide +kernel
theorem dX7_pattern_28 : decode cX7_pattern 28 = .ok (.bipush 8, 2) := by decide +kernel
theorem dX7_pattern_30 : decode cX7_pattern 30 = .ok (.if_icmp .ne 6, 3) := by decide +kernel
theorem dX7_pattern_36 : decode cX7_pattern 36 = .ok (.aload_n 0, 1) := by decide +kernel
theorem dX7_pattern_37 : decode cX7_pattern 37 = .ok (.getfield 13, 3) := by decide +kernel
theorem dX7_pattern_40 : decode cX7_pattern 40 = .ok (.iconst 3, 1) := by decide +kernel
theorem dX7_pattern_41 : decode cX7_pattern 41 = .ok (.aload_n 0, 1) := by decide +kernel
theorem dX7_pattern_42 : decode cX7_pattern 42 = .ok (.getfield 87, 3) := by decide +kernel
theorem dX7_pattern_45 : decode cX7_pattern 45 = .ok (.imul, 1) := by decide +kernel
theorem dX7_pattern_46 : decode cX7_pattern 46 = .ok (.iload_n 1, 1) := by decide +kernel
theorem dX7_pattern_47 : decode cX7_pattern 47 = .ok (.iastore, 1) := by decide +kernel
theorem dX7_pattern_48 : decode cX7_pattern 48 = .ok (.aload_n 0, 1) := by decide +kernel
theorem dX7_pattern_49 : decode cX7_pattern 49 = .ok (.getfield 13, 3) := by decide +kernel
theorem dX7_pattern_52 : decode cX7_pattern 52 = .ok (.iconst 3, 1) := by decide +kernel
theorem dX7_pattern_53 : decode cX7_pattern 53 = .ok (.aload_n 0, 1) := by decide +kernel
theorem dX7_pattern_54 : decode cX7_pattern 54 = .ok (.getfield 87, 3) := by decide +kernel
theorem dX7_pattern_57 : decode cX7_pattern 57 = .ok (.imul, 1) := by decide +kernel
theorem dX7_pattern_58 : decode cX7_pattern 58 = .ok (.iconst 1, 1) := by decide +kernel
theorem dX7_pattern_59 : decode cX7_pattern 59 = .ok (.iadd, 1) := by decide +kernel
theorem dX7_pattern_60 : decode cX7_pattern 60 = .ok (.iload_n 2, 1) := by decide +kernel
theorem dX7_pattern_61 : decode cX7_pattern 61 = .ok (.iastore, 1) := by decide +kernel
theorem dX7_pattern_62 : decode cX7_pattern 62 = .ok (.aload_n 0, 1) := by decide +kernel
theorem dX7_pattern_63 : decode cX7_pattern 63 = .ok (.getfield 13, 3) := by decide +kernel
theorem dX7_pattern_66 : decode cX7_pattern 66 = .ok (.iconst 3, 1) := by decide +kernel
theorem dX7_pattern_67 : decode cX7_pattern 67 = .ok (.aload_n 0, 1) := by decide +kernel
theorem dX7_pattern_68 : decode cX7_pattern 68 = .ok (.getfield 87, 3) := by decide +kernel
theorem dX7_pattern_71 : decode cX7_pattern 71 = .ok (.imul, 1) := by decide +kernel
theorem dX7_pattern_72 : decode cX7_pattern 72 = .ok (.iconst 2, 1) := by decide +kernel
theorem dX7_pattern_73 : decode cX7_pattern 73 = .ok (.iadd, 1) := by decide +kernel
theorem dX7_pattern_74 : decode cX7_pattern 74 = .ok (.iload_n 3, 1) := by decide +kernel
theorem dX7_pattern_75 : decode cX7_pattern 75 = .ok (.iastore, 1) := by decide +kernel
theorem dX7_pattern_76 : decode cX7_pattern 76 = .ok (.aload_n 0, 1) := by decide +kernel
theorem dX7_pattern_77 : decode cX7_pattern 77 = .ok (.getfield 16, 3) := by decide +kernel
theorem dX7_pattern_80 : decode cX7_pattern 80 = .ok (.aload_n 0, 1) := by decide +kernel
theorem dX7_pattern_81 : decode cX7_pattern 81 = .ok (.getfield 87, 3) := by decide +kernel
theorem dX7_pattern_84 : decode cX7_pattern 84 = .ok (.iconst (-1), 1) := by decide +kernel
theorem dX7_pattern_85 : decode cX7_pattern 85 = .ok (.iastore, 1) := by decide +kernel
theorem dX7_pattern_86 : decode cX7_pattern 86 = .ok (.aload_n 0, 1) := by decide +kernel
theorem dX7_pattern_87 : decode cX7_pattern 87 = .ok (.getfield 19, 3) := by decide +kernel
theorem dX7_pattern_90 : decode cX7_pattern 90 = .ok (.aload_n 0, 1) := by decide +kernel
theorem dX7_pattern_91 : decode cX7_pattern 91 = .ok (.getfield 87, 3) := by decide +kernel
theorem dX7_pattern_94 : decode cX7_pattern 94 = .ok (.iconst (-1), 1) := by decide +kernel
theorem dX7_pattern_95 : decode cX7_pattern 95 = .ok (.iastore, 1) := by decide +kernel
theorem dX7_pattern_96 : decode cX7_pattern 96 = .ok (.aload_n 0, 1) := by decide +kernel
theorem dX7_pattern_97 : decode cX7_pattern 97 = .ok (.dup, 1) := by decide +kernel
theorem dX7_pattern_98 : decode cX7_pattern 98 = .ok (.getfield 87, 3) := by decide +kernel
theorem dX7_pattern_101 : decode cX7_pattern 101 = .ok (.iconst 1, 1) := by decide +kernel
theorem dX7_pattern_102 : decode cX7_pattern 102 = .ok (.iadd, 1) := by decide +kernel
theorem dX7_pattern_103 : decode cX7_pattern 103 = .ok (.putfield 87, 3) := by decide +kernel
theorem dX7_pattern_106 : decode cX7_pattern 106 = .ok (.aload_n 0, 1) := by decide +kernel
theorem dX7_pattern_107 : decode cX7_pattern 107 = .ok (.getfield 87, 3) := by decide +kernel
theorem dX7_pattern_110 : decode cX7_pattern 110 = .ok (.iconst 1, 1) := by decide +kernel
theorem dX7_pattern_111 : decode cX7_pattern 111 = .ok (.isub, 1) := by decide +kernel
theorem dX7_pattern_112 : decode cX7_pattern 112 = .ok (.ireturn, 1) := by decide +kernel
theorem dX7_pattern_33 : decode cX7_pattern 33 = .ok (.bipush (-4), 2) := by decide +kernel
theorem dX7_pattern_35 : decode cX7_pattern 35 = .ok (.ireturn, 1) := by decide +kernel
theorem dX7_isPattern_0 : decode cX7_isPattern 0 = .ok (.iload_n 1, 1) := by decide +kernel
theorem dX7_isPattern_1 : decode cX7_isPattern 1 = .ok (.ifCond .lt 15, 3) := by decide +kernel
theorem dX7_isPattern_16 : decode cX7_isPattern 16 = .ok (.iconst 0, 1) := by decide +kernel
theorem dX7_isPattern_17 : decode cX7_isPattern 17 = .ok (.ireturn, 1) := by decide +kernel
theorem dX7_isPattern_4 : decode cX7_isPattern 4 = .ok (.iload_n 1, 1) := by decide +kernel
theorem dX7_isPattern_5 : decode cX7_isPattern 5 = .ok (.aload_n 0, 1) := by decide +kernel
theorem dX7_isPattern_6 : decode cX7_isPattern 6 = .ok (.getfield 87, 3) := by decide +kernel
theorem dX7_isPattern_9 : decode cX7_isPattern 9 = .ok (.if_icmp .ge 7, 3) := by decide +kernel
theorem dX7_isPattern_12 : decode cX7_isPattern 12 = .ok (.iconst 1, 1) := by decide +kernel
theorem dX7_isPattern_13 : decode cX7_isPattern 13 = .ok (.goto 4, 3) := by decide +kernel
theorem dX7_isRequired_0 : decode cX7_isRequired 0 = .ok (.aload_n 0, 1) := by decide +kernel
theorem dX7_isRequired_1 : decode cX7_isRequired 1 = .ok (.getfield 19, 3) := by decide +kernel
theorem dX7_isRequired_4 : decode cX7_isRequired 4 = .ok (.iload_n 1, 1) := by decide +kernel
theorem dX7_isRequired_5 : decode cX7_isRequired 5 = .ok (.iaload, 1) := by decide +kernel
theorem dX7_isRequired_6 : decode cX7_isRequired 6 = .ok (.iconst (-1), 1) := by decide +kernel
theorem dX7_isRequired_7 : decode cX7_isRequired 7 = .ok (.if_icmp .ne 7, 3) := by decide +kernel
theorem dX7_isRequired_14 : decode cX7_isRequired 14 = .ok (.iconst 0, 1) := by decide +kernel
theorem dX7_isRequired_15 : decode cX7_isRequired 15 = .ok (.ireturn, 1) := by decide +kernel
theorem dX7_isRequired_10 : decode cX7_isRequired 10 = .ok (.iconst 1, 1) := by decide +kernel
theorem dX7_isRequired_11 : decode cX7_isRequired 11 = .ok (.goto 4, 3) := by decide +kernel
theorem dX7_isHinted_0 : decode cX7_isHinted 0 = .ok (.iconst 0, 1) := by decide +kernel
theorem dX7_isHinted_1 : decode cX7_isHinted 1 = .ok (.istore_n 2, 1) := by decide +kernel
theorem dX7_isHinted_2 : decode cX7_isHinted 2 = .ok (.iconst 0, 1) := by decide +kernel
theorem dX7_isHinted_3 : decode cX7_isHinted 3 = .ok (.istore_n 3, 1) := by decide +kernel
theorem dX7_isHinted_4 : decode cX7_isHinted 4 = .ok (.iload_n 3, 1) := by decide +kernel
theorem dX7_isHinted_5 : decode cX7_isHinted 5 = .ok (.bipush 8, 2) := by decide +kernel
theorem dX7_isHinted_7 : decode cX7_isHinted 7 = .ok (.if_icmp .ge 47, 3) := by decide +kernel
theorem dX7_isHinted_10 : decode cX7_isHinted 10 = .ok (.iload_n 2, 1) := by decide +kernel
theorem dX7_isHinted_11 : decode cX7_isHinted 11 = .ok (.ifCond .ne 31, 3) := by decide +kernel
theorem dX7_isHinted_42 : decode cX7_isHinted 42 = .ok (.iconst 1, 1) := by decide +kernel
theorem dX7_isHinted_43 : decode cX7_isHinted 43 = .ok (.goto 4, 3) := by decide +kernel
theorem dX7_isHinted_47 : decode cX7_isHinted 47 = .ok (.istore_n 2, 1) := by decide +kernel
theorem dX7_isHinted_48 : decode cX7_isHinted 48 = .ok (.iinc 3 1, 3) := by decide +kernel
theorem dX7_isHinted_51 : decode cX7_isHinted 51 = .ok (.goto (-47), 3) := by decide +kernel
theorem dX7_isHinted_14 : decode cX7_isHinted 14 = .ok (.aload_n 0, 1) := by decide +kernel
theorem dX7_isHinted_15 : decode cX7_isHinted 15 = .ok (.getfield 22, 3) := by decide +kernel
theorem dX7_isHinted_18 : decode cX7_isHinted 18 = .ok (.bipush 8, 2) := by decide +kernel
theorem dX7_isHinted_20 : decode cX7_isHinted 20 = .ok (.iload_n 1, 1) := by decide +kernel
theorem dX7_isHinted_21 : decode cX7_isHinted 21 = .ok (.imul, 1) := by decide +kernel
theorem dX7_isHinted_22 : decode cX7_isHinted 22 = .ok (.iload_n 3, 1) := by decide +kernel
theorem dX7_isHinted_23 : decode cX7_isHinted 23 = .ok (.iadd, 1) := by decide +kernel
theorem dX7_isHinted_24 : decode cX7_isHinted 24 = .ok (.baload, 1) := by decide +kernel
theorem dX7_isHinted_25 : decode cX7_isHinted 25 = .ok (.ifCond .ne 17, 3) := by decide +kernel
theorem dX7_isHinted_28 : decode cX7_isHinted 28 = .ok (.aload_n 0, 1) := by decide +kernel
theorem dX7_isHinted_29 : decode cX7_isHinted 29 = .ok (.getfield 22, 3) := by decide +kernel
theorem dX7_isHinted_32 : decode cX7_isHinted 32 = .ok (.bipush 8, 2) := by decide +kernel
theorem dX7_isHinted_34 : decode cX7_isHinted 34 = .ok (.iload_n 3, 1) := by decide +kernel
theorem dX7_isHinted_35 : decode cX7_isHinted 35 = .ok (.imul, 1) := by decide +kernel
theorem dX7_isHinted_36 : decode cX7_isHinted 36 = .ok (.iload_n 1, 1) := by decide +kernel
theorem dX7_isHinted_37 : decode cX7_isHinted 37 = .ok (.iadd, 1) := by decide +kernel
theorem dX7_isHinted_38 : decode cX7_isHinted 38 = .ok (.baload, 1) := by decide +kernel
theorem dX7_isHinted_39 : decode cX7_isHinted 39 = .ok (.ifCond .eq 7, 3) := by decide +kernel
theorem dX7_isHinted_46 : decode cX7_isHinted 46 = .ok (.iconst 0, 1) := by decide +kernel
theorem dX7_isHinted_54 : decode cX7_isHinted 54 = .ok (.iload_n 2, 1) := by decide +kernel
theorem dX7_isHinted_55 : decode cX7_isHinted 55 = .ok (.ireturn, 1) := by decide +kernel
theorem dX7_isOf_0 : decode cX7_isOf 0 = .ok (.aload_n 0, 1) := by decide +kernel
theorem dX7_isOf_1 : decode cX7_isOf 1 = .ok (.getfield 19, 3) := by decide +kernel
theorem dX7_isOf_4 : decode cX7_isOf 4 = .ok (.iload_n 1, 1) := by decide +kernel
theorem dX7_isOf_5 : decode cX7_isOf 5 = .ok (.iaload, 1) := by decide +kernel
theorem dX7_isOf_6 : decode cX7_isOf 6 = .ok (.istore_n 3, 1) := by decide +kernel
theorem dX7_isOf_7 : decode cX7_isOf 7 = .ok (.iload_n 3, 1) := by decide +kernel
theorem dX7_isOf_8 : decode cX7_isOf 8 = .ok (.iconst (-1), 1) := by decide +kernel
theorem dX7_isOf_9 : decode cX7_isOf 9 = .ok (.if_icmp .eq 18, 3) := by decide +kernel
theorem dX7_isOf_12 : decode cX7_isOf 12 = .ok (.iload_n 3, 1) := by decide +kernel
theorem dX7_isOf_13 : decode cX7_isOf 13 = .ok (.iload_n 2, 1) := by decide +kernel
theorem dX7_isOf_14 : decode cX7_isOf 14 = .ok (.if_icmp .eq 13, 3) := by decide +kernel
theorem dX7_isOf_17 : decode cX7_isOf 17 = .ok (.aload_n 0, 1) := by decide +kernel
theorem dX7_isOf_18 : decode cX7_isOf 18 = .ok (.getfield 19, 3) := by decide +kernel
theorem dX7_isOf_21 : decode cX7_isOf 21 = .ok (.iload_n 3, 1) := by decide +kernel
theorem dX7_isOf_22 : decode cX7_isOf 22 = .ok (.iaload, 1) := by decide +kernel
theorem dX7_isOf_23 : decode cX7_isOf 23 = .ok (.istore_n 3, 1) := by decide +kernel
theorem dX7_isOf_24 : decode cX7_isOf 24 = .ok (.goto (-17), 3) := by decide +kernel
theorem dX7_isOf_27 : decode cX7_isOf 27 = .ok (.iload_n 3, 1) := by decide +kernel
theorem dX7_isOf_28 : decode cX7_isOf 28 = .ok (.iload_n 2, 1) := by decide +kernel
theorem dX7_isOf_29 : decode cX7_isOf 29 = .ok (.if_icmp .ne 7, 3) := by decide +kernel
theorem dX7_isOf_36 : decode cX7_isOf 36 = .ok (.iconst 0, 1) := by decide +kernel
theorem dX7_isOf_37 : decode cX7_isOf 37 = .ok (.ireturn, 1) := by decide +kernel
theorem dX7_isOf_32 : decode cX7_isOf 32 = .ok (.iconst 1, 1) := by decide +kernel
theorem dX7_isOf_33 : decode cX7_isOf 33 = .ok (.goto 4, 3) := by decide +kernel
theorem dX7_optional_0 : decode cX7_optional 0 = .ok (.aload_n 0, 1) := by decide +kernel
theorem dX7_optional_1 : decode cX7_optional 1 = .ok (.iload_n 1, 1) := by decide +kernel
theorem dX7_optional_2 : decode cX7_optional 2 = .ok (.invokevirtual 104, 3) := by decide +kernel
theorem dX7_optional_5 : decode cX7_optional 5 = .ok (.ifCond .eq 11, 3) := by decide +kernel
theorem dX7_optional_16 : decode cX7_optional 16 = .ok (.iconst (-1), 1) := by decide +kernel
theorem dX7_optional_17 : decode cX7_optional 17 = .ok (.ireturn, 1) := by decide +kernel
theorem dX7_optional_8 : decode cX7_optional 8 = .ok (.aload_n 0, 1) := by decide +kernel
theorem dX7_optional_9 : decode cX7_optional 9 = .ok (.iload_n 2, 1) := by decide +kernel
theorem dX7_optional_10 : decode cX7_optional 10 = .ok (.invokevirtual 104, 3) := by decide +kernel
theorem dX7_optional_13 : decode cX7_optional 13 = .ok (.ifCond .ne 5, 3) := by decide +kernel
theorem dX7_optional_18 : decode cX7_optional 18 = .ok (.aload_n 0, 1) := by decide +kernel
theorem dX7_optional_19 : decode cX7_optional 19 = .ok (.iload_n 1, 1) := by decide +kernel
theorem dX7_optional_20 : decode cX7_optional 20 = .ok (.invokevirtual 107, 3) := by decide +kernel
theorem dX7_optional_23 : decode cX7_optional 23 = .ok (.ifCond .eq 25, 3) := by decide +kernel
theorem dX7_optional_48 : decode cX7_optional 48 = .ok (.bipush (-3), 2) := by decide +kernel
theorem dX7_optional_50 : decode cX7_optional 50 = .ok (.ireturn, 1) := by decide +kernel
theorem dX7_optional_26 : decode cX7_optional 26 = .ok (.aload_n 0, 1) := by decide +kernel
theorem dX7_optional_27 : decode cX7_optional 27 = .ok (.iload_n 1, 1) := by decide +kernel
theorem dX7_optional_28 : decode cX7_optional 28 = .ok (.invokevirtual 110, 3) := by decide +kernel
theorem dX7_optional_31 : decode cX7_optional 31 = .ok (.ifCond .ne 17, 3) := by decide +kernel
theorem dX7_optional_34 : decode cX7_optional 34 = .ok (.iload_n 1, 1) := by decide +kernel
theorem dX7_optional_35 : decode cX7_optional 35 = .ok (.iload_n 2, 1) := by decide +kernel
theorem dX7_optional_36 : decode cX7_optional 36 = .ok (.if_icmp .eq 12, 3) := by decide +kernel
theorem dX7_optional_39 : decode cX7_optional 39 = .ok (.aload_n 0, 1) := by decide +kernel
theorem dX7_optional_40 : decode cX7_optional 40 = .ok (.iload_n 2, 1) := by decide +kernel
theorem dX7_optional_41 : decode cX7_optional 41 = .ok (.iload_n 1, 1) := by decide +kernel
theorem dX7_optional_42 : decode cX7_optional 42 = .ok (.invokevirtual 113, 3) := by decide +kernel
theorem dX7_optional_45 : decode cX7_optional 45 = .ok (.ifCond .eq 6, 3) := by decide +kernel
theorem dX7_optional_51 : decode cX7_optional 51 = .ok (.aload_n 0, 1) := by decide +kernel
theorem dX7_optional_52 : decode cX7_optional 52 = .ok (.getfield 19, 3) := by decide +kernel
theorem dX7_optional_55 : decode cX7_optional 55 = .ok (.iload_n 1, 1) := by decide +kernel
theorem dX7_optional_56 : decode cX7_optional 56 = .ok (.iload_n 2, 1) := by decide +kernel
theorem dX7_optional_57 : decode cX7_optional 57 = .ok (.iastore, 1) := by decide +kernel
theorem dX7_optional_58 : decode cX7_optional 58 = .ok (.iconst 1, 1) := by decide +kernel
theorem dX7_optional_59 : decode cX7_optional 59 = .ok (.ireturn, 1) := by decide +kernel
theorem dX7_filter_0 : decode cX7_filter 0 = .ok (.iload_n 1, 1) := by decide +kernel
theorem dX7_filter_1 : decode cX7_filter 1 = .ok (.invokestatic 98, 3) := by decide +kernel
theorem dX7_filter_4 : decode cX7_filter 4 = .ok (.ifCond .eq 19, 3) := by decide +kernel
theorem dX7_filter_23 : decode cX7_filter 23 = .ok (.bipush (-2), 2) := by decide +kernel
theorem dX7_filter_25 : decode cX7_filter 25 = .ok (.ireturn, 1) := by decide +kernel
theorem dX7_filter_7 : decode cX7_filter 7 = .ok (.iload_n 2, 1) := by decide +kernel
theorem dX7_filter_8 : decode cX7_filter 8 = .ok (.ifCond .lt 15, 3) := by decide +kernel
theorem dX7_filter_11 : decode cX7_filter 11 = .ok (.iload_n 2, 1) := by decide +kernel
theorem dX7_filter_12 : decode cX7_filter 12 = .ok (.iconst 3, 1) := by decide +kernel
theorem dX7_filter_13 : decode cX7_filter 13 = .ok (.if_icmp .gt 10, 3) := by decide +kernel
theorem dX7_filter_16 : decode cX7_filter 16 = .ok (.iload_n 3, 1) := by decide +kernel
theorem dX7_filter_17 : decode cX7_filter 17 = .ok (.invokestatic 91, 3) := by decide +kernel
theorem dX7_filter_20 : decode cX7_filter 20 = .ok (.ifCond .ne 6, 3) := by decide +kernel
theorem dX7_filter_26 : decode cX7_filter 26 = .ok (.aload_n 0, 1) := by decide +kernel
theorem dX7_filter_27 : decode cX7_filter 27 = .ok (.getfield 117, 3) := by decide +kernel
theorem dX7_filter_30 : decode cX7_filter 30 = .ok (.bipush 8, 2) := by decide +kernel
theorem dX7_filter_32 : decode cX7_filter 32 = .ok (.if_icmp .ne 6, 3) := by decide +kernel
theorem dX7_filter_38 : decode cX7_filter 38 = .ok (.aload_n 0, 1) := by decide +kernel
theorem dX7_filter_39 : decode cX7_filter 39 = .ok (.getfield 26, 3) := by decide +kernel
theorem dX7_filter_42 : decode cX7_filter 42 = .ok (.aload_n 0, 1) := by decide +kernel
theorem dX7_filter_43 : decode cX7_filter 43 = .ok (.getfield 117, 3) := by decide +kernel
theorem dX7_filter_46 : decode cX7_filter 46 = .ok (.iload_n 1, 1) := by decide +kernel
theorem dX7_filter_47 : decode cX7_filter 47 = .ok (.iastore, 1) := by decide +kernel
theorem dX7_filter_48 : decode cX7_filter 48 = .ok (.aload_n 0, 1) := by decide +kernel
theorem dX7_filter_49 : decode cX7_filter 49 = .ok (.getfield 29, 3) := by decide +kernel
theorem dX7_filter_52 : decode cX7_filter 52 = .ok (.aload_n 0, 1) := by decide +kernel
theorem dX7_filter_53 : decode cX7_filter 53 = .ok (.getfield 117, 3) := by decide +kernel
theorem dX7_filter_56 : decode cX7_filter 56 = .ok (.iload_n 2, 1) := by decide +kernel
theorem dX7_filter_57 : decode cX7_filter 57 = .ok (.iastore, 1) := by decide +kernel
theorem dX7_filter_58 : decode cX7_filter 58 = .ok (.aload_n 0, 1) := by decide +kernel
theorem dX7_filter_59 : decode cX7_filter 59 = .ok (.getfield 32, 3) := by decide +kernel
theorem dX7_filter_62 : decode cX7_filter 62 = .ok (.aload_n 0, 1) := by decide +kernel
theorem dX7_filter_63 : decode cX7_filter 63 = .ok (.getfield 117, 3) := by decide +kernel
theorem dX7_filter_66 : decode cX7_filter 66 = .ok (.iload_n 3, 1) := by decide +kernel
theorem dX7_filter_67 : decode cX7_filter 67 = .ok (.iastore, 1) := by decide +kernel
theorem dX7_filter_68 : decode cX7_filter 68 = .ok (.aload_n 0, 1) := by decide +kernel
theorem dX7_filter_69 : decode cX7_filter 69 = .ok (.getfield 35, 3) := by decide +kernel
theorem dX7_filter_72 : decode cX7_filter 72 = .ok (.aload_n 0, 1) := by decide +kernel
theorem dX7_filter_73 : decode cX7_filter 73 = .ok (.getfield 117, 3) := by decide +kernel
theorem dX7_filter_76 : decode cX7_filter 76 = .ok (.iload 4, 2) := by decide +kernel
theorem dX7_filter_78 : decode cX7_filter 78 = .ok (.bastore, 1) := by decide +kernel
theorem dX7_filter_79 : decode cX7_filter 79 = .ok (.aload_n 0, 1) := by decide +kernel
theorem dX7_filter_80 : decode cX7_filter 80 = .ok (.dup, 1) := by decide +kernel
theorem dX7_filter_81 : decode cX7_filter 81 = .ok (.getfield 117, 3) := by decide +kernel
theorem dX7_filter_84 : decode cX7_filter 84 = .ok (.iconst 1, 1) := by decide +kernel
theorem dX7_filter_85 : decode cX7_filter 85 = .ok (.iadd, 1) := by decide +kernel
theorem dX7_filter_86 : decode cX7_filter 86 = .ok (.putfield 117, 3) := by decide +kernel
theorem dX7_filter_89 : decode cX7_filter 89 = .ok (.aload_n 0, 1) := by decide +kernel
theorem dX7_filter_90 : decode cX7_filter 90 = .ok (.getfield 117, 3) := by decide +kernel
theorem dX7_filter_93 : decode cX7_filter 93 = .ok (.iconst 1, 1) := by decide +kernel
theorem dX7_filter_94 : decode cX7_filter 94 = .ok (.isub, 1) := by decide +kernel
theorem dX7_filter_95 : decode cX7_filter 95 = .ok (.ireturn, 1) := by decide +kernel
theorem dX7_filter_35 : decode cX7_filter 35 = .ok (.bipush (-4), 2) := by decide +kernel
theorem dX7_filter_37 : decode cX7_filter 37 = .ok (.ireturn, 1) := by decide +kernel
theorem dX7_cost_0 : decode cX7_cost 0 = .ok (.aload_n 0, 1) := by decide +kernel
theorem dX7_cost_1 : decode cX7_cost 1 = .ok (.iload_n 1, 1) := by decide +kernel
theorem dX7_cost_2 : decode cX7_cost 2 = .ok (.invokevirtual 104, 3) := by decide +kernel
theorem dX7_cost_5 : decode cX7_cost 5 = .ok (.ifCond .ne 5, 3) := by decide +kernel
theorem dX7_cost_10 : decode cX7_cost 10 = .ok (.iload_n 2, 1) := by decide +kernel
theorem dX7_cost_11 : decode cX7_cost 11 = .ok (.iconst (-1), 1) := by decide +kernel
theorem dX7_cost_12 : decode cX7_cost 12 = .ok (.if_icmp .lt 9, 3) := by decide +kernel
theorem dX7_cost_21 : decode cX7_cost 21 = .ok (.bipush (-2), 2) := by decide +kernel
theorem dX7_cost_23 : decode cX7_cost 23 = .ok (.ireturn, 1) := by decide +kernel
theorem dX7_cost_15 : decode cX7_cost 15 = .ok (.iload_n 2, 1) := by decide +kernel
theorem dX7_cost_16 : decode cX7_cost 16 = .ok (.bipush 100, 2) := by decide +kernel
theorem dX7_cost_18 : decode cX7_cost 18 = .ok (.if_icmp .le 6, 3) := by decide +kernel
theorem dX7_cost_24 : decode cX7_cost 24 = .ok (.aload_n 0, 1) := by decide +kernel
theorem dX7_cost_25 : decode cX7_cost 25 = .ok (.getfield 16, 3) := by decide +kernel
theorem dX7_cost_28 : decode cX7_cost 28 = .ok (.iload_n 1, 1) := by decide +kernel
theorem dX7_cost_29 : decode cX7_cost 29 = .ok (.iload_n 2, 1) := by decide +kernel
theorem dX7_cost_30 : decode cX7_cost 30 = .ok (.iastore, 1) := by decide +kernel
theorem dX7_cost_31 : decode cX7_cost 31 = .ok (.iconst 1, 1) := by decide +kernel
theorem dX7_cost_32 : decode cX7_cost 32 = .ok (.ireturn, 1) := by decide +kernel
theorem dX7_cost_8 : decode cX7_cost 8 = .ok (.iconst (-1), 1) := by decide +kernel
theorem dX7_cost_9 : decode cX7_cost 9 = .ok (.ireturn, 1) := by decide +kernel
theorem dX7_beforeOf_0 : decode cX7_beforeOf 0 = .ok (.iconst 0, 1) := by decide +kernel
theorem dX7_beforeOf_1 : decode cX7_beforeOf 1 = .ok (.istore_n 2, 1) := by decide +kernel
theorem dX7_beforeOf_2 : decode cX7_beforeOf 2 = .ok (.iconst 0, 1) := by decide +kernel
theorem dX7_beforeOf_3 : decode cX7_beforeOf 3 = .ok (.istore_n 3, 1) := by decide +kernel
theorem dX7_beforeOf_4 : decode cX7_beforeOf 4 = .ok (.iload_n 3, 1) := by decide +kernel
theorem dX7_beforeOf_5 : decode cX7_beforeOf 5 = .ok (.bipush 8, 2) := by decide +kernel
theorem dX7_beforeOf_7 : decode cX7_beforeOf 7 = .ok (.if_icmp .ge 96, 3) := by decide +kernel
theorem dX7_beforeOf_10 : decode cX7_beforeOf 10 = .ok (.iconst 0, 1) := by decide +kernel
theorem dX7_beforeOf_11 : decode cX7_beforeOf 11 = .ok (.istore 4, 2) := by decide +kernel
theorem dX7_beforeOf_13 : decode cX7_beforeOf 13 = .ok (.iload 4, 2) := by decide +kernel
theorem dX7_beforeOf_15 : decode cX7_beforeOf 15 = .ok (.bipush 8, 2) := by decide +kernel
theorem dX7_beforeOf_17 : decode cX7_beforeOf 17 = .ok (.if_icmp .ge 80, 3) := by decide +kernel
theorem dX7_beforeOf_20 : decode cX7_beforeOf 20 = .ok (.iconst 0, 1) := by decide +kernel
theorem dX7_beforeOf_21 : decode cX7_beforeOf 21 = .ok (.istore 5, 2) := by decide +kernel
theorem dX7_beforeOf_23 : decode cX7_beforeOf 23 = .ok (.iload 5, 2) := by decide +kernel
theorem dX7_beforeOf_25 : decode cX7_beforeOf 25 = .ok (.bipush 8, 2) := by decide +kernel
theorem dX7_beforeOf_27 : decode cX7_beforeOf 27 = .ok (.if_icmp .ge 64, 3) := by decide +kernel
theorem dX7_beforeOf_30 : decode cX7_beforeOf 30 = .ok (.aload_n 0, 1) := by decide +kernel
theorem dX7_beforeOf_31 : decode cX7_beforeOf 31 = .ok (.getfield 22, 3) := by decide +kernel
theorem dX7_beforeOf_34 : decode cX7_beforeOf 34 = .ok (.bipush 8, 2) := by decide +kernel
theorem dX7_beforeOf_36 : decode cX7_beforeOf 36 = .ok (.iload 4, 2) := by decide +kernel
theorem dX7_beforeOf_38 : decode cX7_beforeOf 38 = .ok (.imul, 1) := by decide +kernel
theorem dX7_beforeOf_39 : decode cX7_beforeOf 39 = .ok (.iload 5, 2) := by decide +kernel
theorem dX7_beforeOf_41 : decode cX7_beforeOf 41 = .ok (.iadd, 1) := by decide +kernel
theorem dX7_beforeOf_42 : decode cX7_beforeOf 42 = .ok (.baload, 1) := by decide +kernel
theorem dX7_beforeOf_43 : decode cX7_beforeOf 43 = .ok (.ifCond .eq 23, 3) := by decide +kernel
theorem dX7_beforeOf_66 : decode cX7_beforeOf 66 = .ok (.iconst 0, 1) := by decide +kernel
theorem dX7_beforeOf_46 : decode cX7_beforeOf 46 = .ok (.iload 5, 2) := by decide +kernel
theorem dX7_beforeOf_48 : decode cX7_beforeOf 48 = .ok (.iload_n 1, 1) := by decide +kernel
theorem dX7_beforeOf_49 : decode cX7_beforeOf 49 = .ok (.if_icmp .eq 13, 3) := by decide +kernel
theorem dX7_beforeOf_62 : decode cX7_beforeOf 62 = .ok (.iconst 1, 1) := by decide +kernel
theorem dX7_beforeOf_63 : decode cX7_beforeOf 63 = .ok (.goto 4, 3) := by decide +kernel
theorem dX7_beforeOf_52 : decode cX7_beforeOf 52 = .ok (.iload_n 2, 1) := by decide +kernel
theorem dX7_beforeOf_53 : decode cX7_beforeOf 53 = .ok (.iload 5, 2) := by decide +kernel
theorem dX7_beforeOf_55 : decode cX7_beforeOf 55 = .ok (.ishr, 1) := by decide +kernel
theorem dX7_beforeOf_56 : decode cX7_beforeOf 56 = .ok (.iconst 1, 1) := by decide +kernel
theorem dX7_beforeOf_57 : decode cX7_beforeOf 57 = .ok (.iand, 1) := by decide +kernel
theorem dX7_beforeOf_58 : decode cX7_beforeOf 58 = .ok (.iconst 1, 1) := by decide +kernel
theorem dX7_beforeOf_59 : decode cX7_beforeOf 59 = .ok (.if_icmp .ne 7, 3) := by decide +kernel
theorem dX7_beforeOf_67 : decode cX7_beforeOf 67 = .ok (.istore 6, 2) := by decide +kernel
theorem dX7_beforeOf_69 : decode cX7_beforeOf 69 = .ok (.iload 6, 2) := by decide +kernel
theorem dX7_beforeOf_71 : decode cX7_beforeOf 71 = .ok (.ifCond .eq 12, 3) := by decide +kernel
theorem dX7_beforeOf_83 : decode cX7_beforeOf 83 = .ok (.iload_n 2, 1) := by decide +kernel
theorem dX7_beforeOf_84 : decode cX7_beforeOf 84 = .ok (.istore_n 2, 1) := by decide +kernel
theorem dX7_beforeOf_85 : decode cX7_beforeOf 85 = .ok (.iinc 5 1, 3) := by decide +kernel
theorem dX7_beforeOf_88 : decode cX7_beforeOf 88 = .ok (.goto (-65), 3) := by decide +kernel
theorem dX7_beforeOf_74 : decode cX7_beforeOf 74 = .ok (.iload_n 2, 1) := by decide +kernel
theorem dX7_beforeOf_75 : decode cX7_beforeOf 75 = .ok (.iconst 1, 1) := by decide +kernel
theorem dX7_beforeOf_76 : decode cX7_beforeOf 76 = .ok (.iload 4, 2) := by decide +kernel
theorem dX7_beforeOf_78 : decode cX7_beforeOf 78 = .ok (.ishl, 1) := by decide +kernel
theorem dX7_beforeOf_79 : decode cX7_beforeOf 79 = .ok (.ior, 1) := by decide +kernel
theorem dX7_beforeOf_80 : decode cX7_beforeOf 80 = .ok (.goto 4, 3) := by decide +kernel
theorem dX7_beforeOf_91 : decode cX7_beforeOf 91 = .ok (.iinc 4 1, 3) := by decide +kernel
theorem dX7_beforeOf_94 : decode cX7_beforeOf 94 = .ok (.goto (-81), 3) := by decide +kernel
theorem dX7_beforeOf_97 : decode cX7_beforeOf 97 = .ok (.iinc 3 1, 3) := by decide +kernel
theorem dX7_beforeOf_100 : decode cX7_beforeOf 100 = .ok (.goto (-96), 3) := by decide +kernel
theorem dX7_beforeOf_103 : decode cX7_beforeOf 103 = .ok (.iload_n 2, 1) := by decide +kernel
theorem dX7_beforeOf_104 : decode cX7_beforeOf 104 = .ok (.ireturn, 1) := by decide +kernel
theorem dX7_hint_0 : decode cX7_hint 0 = .ok (.aload_n 0, 1) := by decide +kernel
theorem dX7_hint_1 : decode cX7_hint 1 = .ok (.iload_n 1, 1) := by decide +kernel
theorem dX7_hint_2 : decode cX7_hint 2 = .ok (.invokevirtual 104, 3) := by decide +kernel
theorem dX7_hint_5 : decode cX7_hint 5 = .ok (.ifCond .eq 11, 3) := by decide +kernel
theorem dX7_hint_16 : decode cX7_hint 16 = .ok (.iconst (-1), 1) := by decide +kernel
theorem dX7_hint_17 : decode cX7_hint 17 = .ok (.ireturn, 1) := by decide +kernel
theorem dX7_hint_8 : decode cX7_hint 8 = .ok (.aload_n 0, 1) := by decide +kernel
theorem dX7_hint_9 : decode cX7_hint 9 = .ok (.iload_n 2, 1) := by decide +kernel
theorem dX7_hint_10 : decode cX7_hint 10 = .ok (.invokevirtual 104, 3) := by decide +kernel
theorem dX7_hint_13 : decode cX7_hint 13 = .ok (.ifCond .ne 5, 3) := by decide +kernel
theorem dX7_hint_18 : decode cX7_hint 18 = .ok (.aload_n 0, 1) := by decide +kernel
theorem dX7_hint_19 : decode cX7_hint 19 = .ok (.iload_n 1, 1) := by decide +kernel
theorem dX7_hint_20 : decode cX7_hint 20 = .ok (.invokevirtual 107, 3) := by decide +kernel
theorem dX7_hint_23 : decode cX7_hint 23 = .ok (.ifCond .eq 29, 3) := by decide +kernel
theorem dX7_hint_52 : decode cX7_hint 52 = .ok (.bipush (-3), 2) := by decide +kernel
theorem dX7_hint_54 : decode cX7_hint 54 = .ok (.ireturn, 1) := by decide +kernel
theorem dX7_hint_26 : decode cX7_hint 26 = .ok (.aload_n 0, 1) := by decide +kernel
theorem dX7_hint_27 : decode cX7_hint 27 = .ok (.iload_n 2, 1) := by decide +kernel
theorem dX7_hint_28 : decode cX7_hint 28 = .ok (.invokevirtual 107, 3) := by decide +kernel
theorem dX7_hint_31 : decode cX7_hint 31 = .ok (.ifCond .eq 21, 3) := by decide +kernel
theorem dX7_hint_34 : decode cX7_hint 34 = .ok (.iload_n 1, 1) := by decide +kernel
theorem dX7_hint_35 : decode cX7_hint 35 = .ok (.iload_n 2, 1) := by decide +kernel
theorem dX7_hint_36 : decode cX7_hint 36 = .ok (.if_icmp .eq 16, 3) := by decide +kernel
theorem dX7_hint_39 : decode cX7_hint 39 = .ok (.aload_n 0, 1) := by decide +kernel
theorem dX7_hint_40 : decode cX7_hint 40 = .ok (.iload_n 1, 1) := by decide +kernel
theorem dX7_hint_41 : decode cX7_hint 41 = .ok (.invokevirtual 120, 3) := by decide +kernel
theorem dX7_hint_44 : decode cX7_hint 44 = .ok (.iload_n 2, 1) := by decide +kernel
theorem dX7_hint_45 : decode cX7_hint 45 = .ok (.ishr, 1) := by decide +kernel
theorem dX7_hint_46 : decode cX7_hint 46 = .ok (.iconst 1, 1) := by decide +kernel
theorem dX7_hint_47 : decode cX7_hint 47 = .ok (.iand, 1) := by decide +kernel
theorem dX7_hint_48 : decode cX7_hint 48 = .ok (.iconst 1, 1) := by decide +kernel
theorem dX7_hint_49 : decode cX7_hint 49 = .ok (.if_icmp .ne 6, 3) := by decide +kernel
theorem dX7_hint_55 : decode cX7_hint 55 = .ok (.aload_n 0, 1) := by decide +kernel
theorem dX7_hint_56 : decode cX7_hint 56 = .ok (.getfield 22, 3) := by decide +kernel
theorem dX7_hint_59 : decode cX7_hint 59 = .ok (.bipush 8, 2) := by decide +kernel
theorem dX7_hint_61 : decode cX7_hint 61 = .ok (.iload_n 1, 1) := by decide +kernel
theorem dX7_hint_62 : decode cX7_hint 62 = .ok (.imul, 1) := by decide +kernel
theorem dX7_hint_63 : decode cX7_hint 63 = .ok (.iload_n 2, 1) := by decide +kernel
theorem dX7_hint_64 : decode cX7_hint 64 = .ok (.iadd, 1) := by decide +kernel
theorem dX7_hint_65 : decode cX7_hint 65 = .ok (.iconst 1, 1) := by decide +kernel
theorem dX7_hint_66 : decode cX7_hint 66 = .ok (.bastore, 1) := by decide +kernel
theorem dX7_hint_67 : decode cX7_hint 67 = .ok (.iconst 1, 1) := by decide +kernel
theorem dX7_hint_68 : decode cX7_hint 68 = .ok (.ireturn, 1) := by decide +kernel
theorem dX7_matches_0 : decode cX7_matches 0 = .ok (.iconst 1, 1) := by decide +kernel
theorem dX7_matches_1 : decode cX7_matches 1 = .ok (.istore_n 3, 1) := by decide +kernel
theorem dX7_matches_2 : decode cX7_matches 2 = .ok (.iconst 0, 1) := by decide +kernel
theorem dX7_matches_3 : decode cX7_matches 3 = .ok (.istore 4, 2) := by decide +kernel
theorem dX7_matches_5 : decode cX7_matches 5 = .ok (.iload 4, 2) := by decide +kernel
theorem dX7_matches_7 : decode cX7_matches 7 = .ok (.iconst 3, 1) := by decide +kernel
theorem dX7_matches_8 : decode cX7_matches 8 = .ok (.if_icmp .ge 120, 3) := by decide +kernel
theorem dX7_matches_11 : decode cX7_matches 11 = .ok (.aload_n 0, 1) := by decide +kernel
theorem dX7_matches_12 : decode cX7_matches 12 = .ok (.getfield 13, 3) := by decide +kernel
theorem dX7_matches_15 : decode cX7_matches 15 = .ok (.iconst 3, 1) := by decide +kernel
theorem dX7_matches_16 : decode cX7_matches 16 = .ok (.iload_n 1, 1) := by decide +kernel
theorem dX7_matches_17 : decode cX7_matches 17 = .ok (.imul, 1) := by decide +kernel
theorem dX7_matches_18 : decode cX7_matches 18 = .ok (.iload 4, 2) := by decide +kernel
theorem dX7_matches_20 : decode cX7_matches 20 = .ok (.iadd, 1) := by decide +kernel
theorem dX7_matches_21 : decode cX7_matches 21 = .ok (.iaload, 1) := by decide +kernel
theorem dX7_matches_22 : decode cX7_matches 22 = .ok (.istore 5, 2) := by decide +kernel
theorem dX7_matches_24 : decode cX7_matches 24 = .ok (.aload_n 0, 1) := by decide +kernel
theorem dX7_matches_25 : decode cX7_matches 25 = .ok (.getfield 7, 3) := by decide +kernel
theorem dX7_matches_28 : decode cX7_matches 28 = .ok (.iconst 3, 1) := by decide +kernel
theorem dX7_matches_29 : decode cX7_matches 29 = .ok (.iload_n 2, 1) := by decide +kernel
theorem dX7_matches_30 : decode cX7_matches 30 = .ok (.imul, 1) := by decide +kernel
theorem dX7_matches_31 : decode cX7_matches 31 = .ok (.iload 4, 2) := by decide +kernel
theorem dX7_matches_33 : decode cX7_matches 33 = .ok (.iadd, 1) := by decide +kernel
theorem dX7_matches_34 : decode cX7_matches 34 = .ok (.iaload, 1) := by decide +kernel
theorem dX7_matches_35 : decode cX7_matches 35 = .ok (.istore 6, 2) := by decide +kernel
theorem dX7_matches_37 : decode cX7_matches 37 = .ok (.iload_n 3, 1) := by decide +kernel
theorem dX7_matches_38 : decode cX7_matches 38 = .ok (.ifCond .eq 19, 3) := by decide +kernel
theorem dX7_matches_57 : decode cX7_matches 57 = .ok (.iconst 0, 1) := by decide +kernel
theorem dX7_matches_41 : decode cX7_matches 41 = .ok (.iload 5, 2) := by decide +kernel
theorem dX7_matches_43 : decode cX7_matches 43 = .ok (.ifCond .lt 10, 3) := by decide +kernel
theorem dX7_matches_53 : decode cX7_matches 53 = .ok (.iconst 1, 1) := by decide +kernel
theorem dX7_matches_54 : decode cX7_matches 54 = .ok (.goto 4, 3) := by decide +kernel
theorem dX7_matches_46 : decode cX7_matches 46 = .ok (.iload 5, 2) := by decide +kernel
theorem dX7_matches_48 : decode cX7_matches 48 = .ok (.iload 6, 2) := by decide +kernel
theorem dX7_matches_50 : decode cX7_matches 50 = .ok (.if_icmp .ne 7, 3) := by decide +kernel
theorem dX7_matches_58 : decode cX7_matches 58 = .ok (.istore_n 3, 1) := by decide +kernel
theorem dX7_matches_59 : decode cX7_matches 59 = .ok (.iconst 0, 1) := by decide +kernel
theorem dX7_matches_60 : decode cX7_matches 60 = .ok (.istore 7, 2) := by decide +kernel
theorem dX7_matches_62 : decode cX7_matches 62 = .ok (.iload 7, 2) := by decide +kernel
theorem dX7_matches_64 : decode cX7_matches 64 = .ok (.iload 4, 2) := by decide +kernel
theorem dX7_matches_66 : decode cX7_matches 66 = .ok (.if_icmp .ge 56, 3) := by decide +kernel
theorem dX7_matches_69 : decode cX7_matches 69 = .ok (.iload_n 3, 1) := by decide +kernel
theorem dX7_matches_70 : decode cX7_matches 70 = .ok (.ifCond .eq 44, 3) := by decide +kernel
theorem dX7_matches_114 : decode cX7_matches 114 = .ok (.iconst 0, 1) := by decide +kernel
theorem dX7_matches_115 : decode cX7_matches 115 = .ok (.istore_n 3, 1) := by decide +kernel
theorem dX7_matches_116 : decode cX7_matches 116 = .ok (.iinc 7 1, 3) := by decide +kernel
theorem dX7_matches_119 : decode cX7_matches 119 = .ok (.goto (-57), 3) := by decide +kernel
theorem dX7_matches_73 : decode cX7_matches 73 = .ok (.iload 5, 2) := by decide +kernel
theorem dX7_matches_75 : decode cX7_matches 75 = .ok (.ifCond .ge 35, 3) := by decide +kernel
theorem dX7_matches_110 : decode cX7_matches 110 = .ok (.iconst 1, 1) := by decide +kernel
theorem dX7_matches_111 : decode cX7_matches 111 = .ok (.goto 4, 3) := by decide +kernel
theorem dX7_matches_78 : decode cX7_matches 78 = .ok (.aload_n 0, 1) := by decide +kernel
theorem dX7_matches_79 : decode cX7_matches 79 = .ok (.getfield 13, 3) := by decide +kernel
theorem dX7_matches_82 : decode cX7_matches 82 = .ok (.iconst 3, 1) := by decide +kernel
theorem dX7_matches_83 : decode cX7_matches 83 = .ok (.iload_n 1, 1) := by decide +kernel
theorem dX7_matches_84 : decode cX7_matches 84 = .ok (.imul, 1) := by decide +kernel
theorem dX7_matches_85 : decode cX7_matches 85 = .ok (.iload 7, 2) := by decide +kernel
theorem dX7_matches_87 : decode cX7_matches 87 = .ok (.iadd, 1) := by decide +kernel
theorem dX7_matches_88 : decode cX7_matches 88 = .ok (.iaload, 1) := by decide +kernel
theorem dX7_matches_89 : decode cX7_matches 89 = .ok (.iload 5, 2) := by decide +kernel
theorem dX7_matches_91 : decode cX7_matches 91 = .ok (.if_icmp .ne 19, 3) := by decide +kernel
theorem dX7_matches_94 : decode cX7_matches 94 = .ok (.aload_n 0, 1) := by decide +kernel
theorem dX7_matches_95 : decode cX7_matches 95 = .ok (.getfield 7, 3) := by decide +kernel
theorem dX7_matches_98 : decode cX7_matches 98 = .ok (.iconst 3, 1) := by decide +kernel
theorem dX7_matches_99 : decode cX7_matches 99 = .ok (.iload_n 2, 1) := by decide +kernel
theorem dX7_matches_100 : decode cX7_matches 100 = .ok (.imul, 1) := by decide +kernel
theorem dX7_matches_101 : decode cX7_matches 101 = .ok (.iload 7, 2) := by decide +kernel
theorem dX7_matches_103 : decode cX7_matches 103 = .ok (.iadd, 1) := by decide +kernel
theorem dX7_matches_104 : decode cX7_matches 104 = .ok (.iaload, 1) := by decide +kernel
theorem dX7_matches_105 : decode cX7_matches 105 = .ok (.iload 6, 2) := by decide +kernel
theorem dX7_matches_107 : decode cX7_matches 107 = .ok (.if_icmp .ne 7, 3) := by decide +kernel
theorem dX7_matches_122 : decode cX7_matches 122 = .ok (.iinc 4 1, 3) := by decide +kernel
theorem dX7_matches_125 : decode cX7_matches 125 = .ok (.goto (-120), 3) := by decide +kernel
theorem dX7_matches_128 : decode cX7_matches 128 = .ok (.iload_n 3, 1) := by decide +kernel
theorem dX7_matches_129 : decode cX7_matches 129 = .ok (.ireturn, 1) := by decide +kernel
theorem dX7_placeOf_0 : decode cX7_placeOf 0 = .ok (.iconst (-1), 1) := by decide +kernel
theorem dX7_placeOf_1 : decode cX7_placeOf 1 = .ok (.istore_n 3, 1) := by decide +kernel
theorem dX7_placeOf_2 : decode cX7_placeOf 2 = .ok (.iconst 2, 1) := by decide +kernel
theorem dX7_placeOf_3 : decode cX7_placeOf 3 = .ok (.istore 4, 2) := by decide +kernel
theorem dX7_placeOf_5 : decode cX7_placeOf 5 = .ok (.iload 4, 2) := by decide +kernel
theorem dX7_placeOf_7 : decode cX7_placeOf 7 = .ok (.ifCond .lt 31, 3) := by decide +kernel
theorem dX7_placeOf_10 : decode cX7_placeOf 10 = .ok (.aload_n 0, 1) := by decide +kernel
theorem dX7_placeOf_11 : decode cX7_placeOf 11 = .ok (.getfield 13, 3) := by decide +kernel
theorem dX7_placeOf_14 : decode cX7_placeOf 14 = .ok (.iconst 3, 1) := by decide +kernel
theorem dX7_placeOf_15 : decode cX7_placeOf 15 = .ok (.iload_n 1, 1) := by decide +kernel
theorem dX7_placeOf_16 : decode cX7_placeOf 16 = .ok (.imul, 1) := by decide +kernel
theorem dX7_placeOf_17 : decode cX7_placeOf 17 = .ok (.iload 4, 2) := by decide +kernel
theorem dX7_placeOf_19 : decode cX7_placeOf 19 = .ok (.iadd, 1) := by decide +kernel
theorem dX7_placeOf_20 : decode cX7_placeOf 20 = .ok (.iaload, 1) := by decide +kernel
theorem dX7_placeOf_21 : decode cX7_placeOf 21 = .ok (.iload_n 2, 1) := by decide +kernel
theorem dX7_placeOf_22 : decode cX7_placeOf 22 = .ok (.if_icmp .ne 8, 3) := by decide +kernel
theorem dX7_placeOf_30 : decode cX7_placeOf 30 = .ok (.iload_n 3, 1) := by decide +kernel
theorem dX7_placeOf_31 : decode cX7_placeOf 31 = .ok (.istore_n 3, 1) := by decide +kernel
theorem dX7_placeOf_32 : decode cX7_placeOf 32 = .ok (.iinc 4 (-1), 3) := by decide +kernel
theorem dX7_placeOf_35 : decode cX7_placeOf 35 = .ok (.goto (-30), 3) := by decide +kernel
theorem dX7_placeOf_25 : decode cX7_placeOf 25 = .ok (.iload 4, 2) := by decide +kernel
theorem dX7_placeOf_27 : decode cX7_placeOf 27 = .ok (.goto 4, 3) := by decide +kernel
theorem dX7_placeOf_38 : decode cX7_placeOf 38 = .ok (.iload_n 3, 1) := by decide +kernel
theorem dX7_placeOf_39 : decode cX7_placeOf 39 = .ok (.ireturn, 1) := by decide +kernel
theorem dX7_measure_0 : decode cX7_measure 0 = .ok (.iconst 0, 1) := by decide +kernel
theorem dX7_measure_1 : decode cX7_measure 1 = .ok (.istore_n 2, 1) := by decide +kernel
theorem dX7_measure_2 : decode cX7_measure 2 = .ok (.iconst 0, 1) := by decide +kernel
theorem dX7_measure_3 : decode cX7_measure 3 = .ok (.istore_n 3, 1) := by decide +kernel
theorem dX7_measure_4 : decode cX7_measure 4 = .ok (.iload_n 3, 1) := by decide +kernel
theorem dX7_measure_5 : decode cX7_measure 5 = .ok (.aload_n 0, 1) := by decide +kernel
theorem dX7_measure_6 : decode cX7_measure 6 = .ok (.getfield 95, 3) := by decide +kernel
theorem dX7_measure_9 : decode cX7_measure 9 = .ok (.if_icmp .ge 26, 3) := by decide +kernel
theorem dX7_measure_12 : decode cX7_measure 12 = .ok (.aload_n 0, 1) := by decide +kernel
theorem dX7_measure_13 : decode cX7_measure 13 = .ok (.iload_n 1, 1) := by decide +kernel
theorem dX7_measure_14 : decode cX7_measure 14 = .ok (.iload_n 3, 1) := by decide +kernel
theorem dX7_measure_15 : decode cX7_measure 15 = .ok (.invokevirtual 124, 3) := by decide +kernel
theorem dX7_measure_18 : decode cX7_measure 18 = .ok (.ifCond .eq 9, 3) := by decide +kernel
theorem dX7_measure_27 : decode cX7_measure 27 = .ok (.iload_n 2, 1) := by decide +kernel
theorem dX7_measure_28 : decode cX7_measure 28 = .ok (.istore_n 2, 1) := by decide +kernel
theorem dX7_measure_29 : decode cX7_measure 29 = .ok (.iinc 3 1, 3) := by decide +kernel
theorem dX7_measure_32 : decode cX7_measure 32 = .ok (.goto (-28), 3) := by decide +kernel
theorem dX7_measure_21 : decode cX7_measure 21 = .ok (.iload_n 2, 1) := by decide +kernel
theorem dX7_measure_22 : decode cX7_measure 22 = .ok (.iconst 1, 1) := by decide +kernel
theorem dX7_measure_23 : decode cX7_measure 23 = .ok (.iadd, 1) := by decide +kernel
theorem dX7_measure_24 : decode cX7_measure 24 = .ok (.goto 4, 3) := by decide +kernel
theorem dX7_measure_35 : decode cX7_measure 35 = .ok (.aload_n 0, 1) := by decide +kernel
theorem dX7_measure_36 : decode cX7_measure 36 = .ok (.getfield 38, 3) := by decide +kernel
theorem dX7_measure_39 : decode cX7_measure 39 = .ok (.iload_n 1, 1) := by decide +kernel
theorem dX7_measure_40 : decode cX7_measure 40 = .ok (.aload_n 0, 1) := by decide +kernel
theorem dX7_measure_41 : decode cX7_measure 41 = .ok (.getfield 16, 3) := by decide +kernel
theorem dX7_measure_44 : decode cX7_measure 44 = .ok (.iload_n 1, 1) := by decide +kernel
theorem dX7_measure_45 : decode cX7_measure 45 = .ok (.iaload, 1) := by decide +kernel
theorem dX7_measure_46 : decode cX7_measure 46 = .ok (.ifCond .lt 12, 3) := by decide +kernel
theorem dX7_measure_58 : decode cX7_measure 58 = .ok (.iload_n 2, 1) := by decide +kernel
theorem dX7_measure_49 : decode cX7_measure 49 = .ok (.aload_n 0, 1) := by decide +kernel
theorem dX7_measure_50 : decode cX7_measure 50 = .ok (.getfield 16, 3) := by decide +kernel
theorem dX7_measure_53 : decode cX7_measure 53 = .ok (.iload_n 1, 1) := by decide +kernel
theorem dX7_measure_54 : decode cX7_measure 54 = .ok (.iaload, 1) := by decide +kernel
theorem dX7_measure_55 : decode cX7_measure 55 = .ok (.goto 4, 3) := by decide +kernel
theorem dX7_measure_59 : decode cX7_measure 59 = .ok (.iastore, 1) := by decide +kernel
theorem dX7_measure_60 : decode cX7_measure 60 = .ok (.iconst 0, 1) := by decide +kernel
theorem dX7_measure_61 : decode cX7_measure 61 = .ok (.istore_n 3, 1) := by decide +kernel
theorem dX7_measure_62 : decode cX7_measure 62 = .ok (.iload_n 3, 1) := by decide +kernel
theorem dX7_measure_63 : decode cX7_measure 63 = .ok (.bipush 8, 2) := by decide +kernel
theorem dX7_measure_65 : decode cX7_measure 65 = .ok (.if_icmp .ge 151, 3) := by decide +kernel
theorem dX7_measure_68 : decode cX7_measure 68 = .ok (.aload_n 0, 1) := by decide +kernel
theorem dX7_measure_69 : decode cX7_measure 69 = .ok (.iload_n 1, 1) := by decide +kernel
theorem dX7_measure_70 : decode cX7_measure 70 = .ok (.iconst (-1), 1) := by decide +kernel
theorem dX7_measure_71 : decode cX7_measure 71 = .ok (.iload_n 3, 1) := by decide +kernel
theorem dX7_measure_72 : decode cX7_measure 72 = .ok (.isub, 1) := by decide +kernel
theorem dX7_measure_73 : decode cX7_measure 73 = .ok (.invokevirtual 127, 3) := by decide +kernel
theorem dX7_measure_76 : decode cX7_measure 76 = .ok (.istore 4, 2) := by decide +kernel
theorem dX7_measure_78 : decode cX7_measure 78 = .ok (.iconst 0, 1) := by decide +kernel
theorem dX7_measure_79 : decode cX7_measure 79 = .ok (.istore 5, 2) := by decide +kernel
theorem dX7_measure_81 : decode cX7_measure 81 = .ok (.iconst 0, 1) := by decide +kernel
theorem dX7_measure_82 : decode cX7_measure 82 = .ok (.istore 6, 2) := by decide +kernel
theorem dX7_measure_84 : decode cX7_measure 84 = .ok (.iload 6, 2) := by decide +kernel
theorem dX7_measure_86 : decode cX7_measure 86 = .ok (.bipush 32, 2) := by decide +kernel
theorem dX7_measure_88 : decode cX7_measure 88 = .ok (.if_icmp .ge 17, 3) := by decide +kernel
theorem dX7_measure_91 : decode cX7_measure 91 = .ok (.aload_n 0, 1) := by decide +kernel
theorem dX7_measure_92 : decode cX7_measure 92 = .ok (.getfield 44, 3) := by decide +kernel
theorem dX7_measure_95 : decode cX7_measure 95 = .ok (.iload 6, 2) := by decide +kernel
theorem dX7_measure_97 : decode cX7_measure 97 = .ok (.iconst 0, 1) := by decide +kernel
theorem dX7_measure_98 : decode cX7_measure 98 = .ok (.bastore, 1) := by decide +kernel
theorem dX7_measure_99 : decode cX7_measure 99 = .ok (.iinc 6 1, 3) := by decide +kernel
theorem dX7_measure_102 : decode cX7_measure 102 = .ok (.goto (-18), 3) := by decide +kernel
theorem dX7_measure_105 : decode cX7_measure 105 = .ok (.iconst 0, 1) := by decide +kernel
theorem dX7_measure_106 : decode cX7_measure 106 = .ok (.istore 6, 2) := by decide +kernel
theorem dX7_measure_108 : decode cX7_measure 108 = .ok (.iload 6, 2) := by decide +kernel
theorem dX7_measure_110 : decode cX7_measure 110 = .ok (.aload_n 0, 1) := by decide +kernel
theorem dX7_measure_111 : decode cX7_measure 111 = .ok (.getfield 95, 3) := by decide +kernel
theorem dX7_measure_114 : decode cX7_measure 114 = .ok (.if_icmp .ge 65, 3) := by decide +kernel
theorem dX7_measure_117 : decode cX7_measure 117 = .ok (.iload 4, 2) := by decide +kernel
theorem dX7_measure_119 : decode cX7_measure 119 = .ok (.ifCond .lt 60, 3) := by decide +kernel
theorem dX7_measure_122 : decode cX7_measure 122 = .ok (.aload_n 0, 1) := by decide +kernel
theorem dX7_measure_123 : decode cX7_measure 123 = .ok (.iload_n 1, 1) := by decide +kernel
theorem dX7_measure_124 : decode cX7_measure 124 = .ok (.iload 6, 2) := by decide +kernel
theorem dX7_measure_126 : decode cX7_measure 126 = .ok (.invokevirtual 124, 3) := by decide +kernel
theorem dX7_measure_129 : decode cX7_measure 129 = .ok (.ifCond .eq 44, 3) := by decide +kernel
theorem dX7_measure_173 : decode cX7_measure 173 = .ok (.iinc 6 1, 3) := by decide +kernel
theorem dX7_measure_176 : decode cX7_measure 176 = .ok (.goto (-68), 3) := by decide +kernel
theorem dX7_measure_132 : decode cX7_measure 132 = .ok (.aload_n 0, 1) := by decide +kernel
theorem dX7_measure_133 : decode cX7_measure 133 = .ok (.getfield 44, 3) := by decide +kernel
theorem dX7_measure_136 : decode cX7_measure 136 = .ok (.aload_n 0, 1) := by decide +kernel
theorem dX7_measure_137 : decode cX7_measure 137 = .ok (.getfield 7, 3) := by decide +kernel
theorem dX7_measure_140 : decode cX7_measure 140 = .ok (.iconst 3, 1) := by decide +kernel
theorem dX7_measure_141 : decode cX7_measure 141 = .ok (.iload 6, 2) := by decide +kernel
theorem dX7_measure_143 : decode cX7_measure 143 = .ok (.imul, 1) := by decide +kernel
theorem dX7_measure_144 : decode cX7_measure 144 = .ok (.iload 4, 2) := by decide +kernel
theorem dX7_measure_146 : decode cX7_measure 146 = .ok (.iadd, 1) := by decide +kernel
theorem dX7_measure_147 : decode cX7_measure 147 = .ok (.iaload, 1) := by decide +kernel
theorem dX7_measure_148 : decode cX7_measure 148 = .ok (.baload, 1) := by decide +kernel
theorem dX7_measure_149 : decode cX7_measure 149 = .ok (.ifCond .ne 24, 3) := by decide +kernel
theorem dX7_measure_152 : decode cX7_measure 152 = .ok (.aload_n 0, 1) := by decide +kernel
theorem dX7_measure_153 : decode cX7_measure 153 = .ok (.getfield 44, 3) := by decide +kernel
theorem dX7_measure_156 : decode cX7_measure 156 = .ok (.aload_n 0, 1) := by decide +kernel
theorem dX7_measure_157 : decode cX7_measure 157 = .ok (.getfield 7, 3) := by decide +kernel
theorem dX7_measure_160 : decode cX7_measure 160 = .ok (.iconst 3, 1) := by decide +kernel
theorem dX7_measure_161 : decode cX7_measure 161 = .ok (.iload 6, 2) := by decide +kernel
theorem dX7_measure_163 : decode cX7_measure 163 = .ok (.imul, 1) := by decide +kernel
theorem dX7_measure_164 : decode cX7_measure 164 = .ok (.iload 4, 2) := by decide +kernel
theorem dX7_measure_166 : decode cX7_measure 166 = .ok (.iadd, 1) := by decide +kernel
theorem dX7_measure_167 : decode cX7_measure 167 = .ok (.iaload, 1) := by decide +kernel
theorem dX7_measure_168 : decode cX7_measure 168 = .ok (.iconst 1, 1) := by decide +kernel
theorem dX7_measure_169 : decode cX7_measure 169 = .ok (.bastore, 1) := by decide +kernel
theorem dX7_measure_170 : decode cX7_measure 170 = .ok (.iinc 5 1, 3) := by decide +kernel
theorem dX7_measure_179 : decode cX7_measure 179 = .ok (.aload_n 0, 1) := by decide +kernel
theorem dX7_measure_180 : decode cX7_measure 180 = .ok (.getfield 41, 3) := by decide +kernel
theorem dX7_measure_183 : decode cX7_measure 183 = .ok (.bipush 8, 2) := by decide +kernel
theorem dX7_measure_185 : decode cX7_measure 185 = .ok (.iload_n 1, 1) := by decide +kernel
theorem dX7_measure_186 : decode cX7_measure 186 = .ok (.imul, 1) := by decide +kernel
theorem dX7_measure_187 : decode cX7_measure 187 = .ok (.iload_n 3, 1) := by decide +kernel
theorem dX7_measure_188 : decode cX7_measure 188 = .ok (.iadd, 1) := by decide +kernel
theorem dX7_measure_189 : decode cX7_measure 189 = .ok (.iload 4, 2) := by decide +kernel
theorem dX7_measure_191 : decode cX7_measure 191 = .ok (.ifCond .ge 7, 3) := by decide +kernel
theorem dX7_measure_198 : decode cX7_measure 198 = .ok (.iload 5, 2) := by decide +kernel
theorem dX7_measure_200 : decode cX7_measure 200 = .ok (.ifCond .le 8, 3) := by decide +kernel
theorem dX7_measure_208 : decode cX7_measure 208 = .ok (.iconst 1, 1) := by decide +kernel
theorem dX7_measure_209 : decode cX7_measure 209 = .ok (.iastore, 1) := by decide +kernel
theorem dX7_measure_210 : decode cX7_measure 210 = .ok (.iinc 3 1, 3) := by decide +kernel
theorem dX7_measure_213 : decode cX7_measure 213 = .ok (.goto (-151), 3) := by decide +kernel
theorem dX7_measure_203 : decode cX7_measure 203 = .ok (.iload 5, 2) := by decide +kernel
theorem dX7_measure_205 : decode cX7_measure 205 = .ok (.goto 4, 3) := by decide +kernel
theorem dX7_measure_194 : decode cX7_measure 194 = .ok (.iconst 0, 1) := by decide +kernel
theorem dX7_measure_195 : decode cX7_measure 195 = .ok (.goto 14, 3) := by decide +kernel
theorem dX7_measure_216 : decode cX7_measure 216 = .ok (.return_, 1) := by decide +kernel
theorem dX7_allRequired_0 : decode cX7_allRequired 0 = .ok (.iconst 0, 1) := by decide +kernel
theorem dX7_allRequired_1 : decode cX7_allRequired 1 = .ok (.istore_n 1, 1) := by decide +kernel
theorem dX7_allRequired_2 : decode cX7_allRequired 2 = .ok (.iconst 0, 1) := by decide +kernel
theorem dX7_allRequired_3 : decode cX7_allRequired 3 = .ok (.istore_n 2, 1) := by decide +kernel
theorem dX7_allRequired_4 : decode cX7_allRequired 4 = .ok (.iload_n 2, 1) := by decide +kernel
theorem dX7_allRequired_5 : decode cX7_allRequired 5 = .ok (.aload_n 0, 1) := by decide +kernel
theorem dX7_allRequired_6 : decode cX7_allRequired 6 = .ok (.getfield 87, 3) := by decide +kernel
theorem dX7_allRequired_9 : decode cX7_allRequired 9 = .ok (.if_icmp .ge 27, 3) := by decide +kernel
theorem dX7_allRequired_12 : decode cX7_allRequired 12 = .ok (.aload_n 0, 1) := by decide +kernel
theorem dX7_allRequired_13 : decode cX7_allRequired 13 = .ok (.iload_n 2, 1) := by decide +kernel
theorem dX7_allRequired_14 : decode cX7_allRequired 14 = .ok (.invokevirtual 107, 3) := by decide +kernel
theorem dX7_allRequired_17 : decode cX7_allRequired 17 = .ok (.ifCond .eq 11, 3) := by decide +kernel
theorem dX7_allRequired_28 : decode cX7_allRequired 28 = .ok (.iload_n 1, 1) := by decide +kernel
theorem dX7_allRequired_29 : decode cX7_allRequired 29 = .ok (.istore_n 1, 1) := by decide +kernel
theorem dX7_allRequired_30 : decode cX7_allRequired 30 = .ok (.iinc 2 1, 3) := by decide +kernel
theorem dX7_allRequired_33 : decode cX7_allRequired 33 = .ok (.goto (-29), 3) := by decide +kernel
theorem dX7_allRequired_20 : decode cX7_allRequired 20 = .ok (.iload_n 1, 1) := by decide +kernel
theorem dX7_allRequired_21 : decode cX7_allRequired 21 = .ok (.iconst 1, 1) := by decide +kernel
theorem dX7_allRequired_22 : decode cX7_allRequired 22 = .ok (.iload_n 2, 1) := by decide +kernel
theorem dX7_allRequired_23 : decode cX7_allRequired 23 = .ok (.ishl, 1) := by decide +kernel
theorem dX7_allRequired_24 : decode cX7_allRequired 24 = .ok (.ior, 1) := by decide +kernel
theorem dX7_allRequired_25 : decode cX7_allRequired 25 = .ok (.goto 4, 3) := by decide +kernel
theorem dX7_allRequired_36 : decode cX7_allRequired 36 = .ok (.iload_n 1, 1) := by decide +kernel
theorem dX7_allRequired_37 : decode cX7_allRequired 37 = .ok (.ireturn, 1) := by decide +kernel
theorem dX7_divisor_0 : decode cX7_divisor 0 = .ok (.lload_n 3, 1) := by decide +kernel
theorem dX7_divisor_1 : decode cX7_divisor 1 = .ok (.lstore 5, 2) := by decide +kernel
theorem dX7_divisor_3 : decode cX7_divisor 3 = .ok (.iconst 0, 1) := by decide +kernel
theorem dX7_divisor_4 : decode cX7_divisor 4 = .ok (.istore 7, 2) := by decide +kernel
theorem dX7_divisor_6 : decode cX7_divisor 6 = .ok (.iconst 0, 1) := by decide +kernel
theorem dX7_divisor_7 : decode cX7_divisor 7 = .ok (.istore 8, 2) := by decide +kernel
theorem dX7_divisor_9 : decode cX7_divisor 9 = .ok (.iload 8, 2) := by decide +kernel
theorem dX7_divisor_11 : decode cX7_divisor 11 = .ok (.aload_n 0, 1) := by decide +kernel
theorem dX7_divisor_12 : decode cX7_divisor 12 = .ok (.getfield 87, 3) := by decide +kernel
theorem dX7_divisor_15 : decode cX7_divisor 15 = .ok (.if_icmp .ge 110, 3) := by decide +kernel
theorem dX7_divisor_18 : decode cX7_divisor 18 = .ok (.iload_n 1, 1) := by decide +kernel
theorem dX7_divisor_19 : decode cX7_divisor 19 = .ok (.iload 8, 2) := by decide +kernel
theorem dX7_divisor_21 : decode cX7_divisor 21 = .ok (.ishr, 1) := by decide +kernel
theorem dX7_divisor_22 : decode cX7_divisor 22 = .ok (.iconst 1, 1) := by decide +kernel
theorem dX7_divisor_23 : decode cX7_divisor 23 = .ok (.iand, 1) := by decide +kernel
theorem dX7_divisor_24 : decode cX7_divisor 24 = .ok (.iconst 1, 1) := by decide +kernel
theorem dX7_divisor_25 : decode cX7_divisor 25 = .ok (.if_icmp .ne 18, 3) := by decide +kernel
theorem dX7_divisor_43 : decode cX7_divisor 43 = .ok (.iconst 0, 1) := by decide +kernel
theorem dX7_divisor_28 : decode cX7_divisor 28 = .ok (.aload_n 0, 1) := by decide +kernel
theorem dX7_divisor_29 : decode cX7_divisor 29 = .ok (.getfield 41, 3) := by decide +kernel
theorem dX7_divisor_32 : decode cX7_divisor 32 = .ok (.bipush 8, 2) := by decide +kernel
theorem dX7_divisor_34 : decode cX7_divisor 34 = .ok (.iload 8, 2) := by decide +kernel
theorem dX7_divisor_36 : decode cX7_divisor 36 = .ok (.imul, 1) := by decide +kernel
theorem dX7_divisor_37 : decode cX7_divisor 37 = .ok (.iload_n 2, 1) := by decide +kernel
theorem dX7_divisor_38 : decode cX7_divisor 38 = .ok (.iadd, 1) := by decide +kernel
theorem dX7_divisor_39 : decode cX7_divisor 39 = .ok (.iaload, 1) := by decide +kernel
theorem dX7_divisor_40 : decode cX7_divisor 40 = .ok (.goto 4, 3) := by decide +kernel
theorem dX7_divisor_44 : decode cX7_divisor 44 = .ok (.istore 9, 2) := by decide +kernel
theorem dX7_divisor_46 : decode cX7_divisor 46 = .ok (.iload 9, 2) := by decide +kernel
theorem dX7_divisor_48 : decode cX7_divisor 48 = .ok (.ifCond .le 71, 3) := by decide +kernel
theorem dX7_divisor_119 : decode cX7_divisor 119 = .ok (.iinc 8 1, 3) := by decide +kernel
theorem dX7_divisor_122 : decode cX7_divisor 122 = .ok (.goto (-113), 3) := by decide +kernel
theorem dX7_divisor_51 : decode cX7_divisor 51 = .ok (.iload 7, 2) := by decide +kernel
theorem dX7_divisor_53 : decode cX7_divisor 53 = .ok (.ifCond .ne 7, 3) := by decide +kernel
theorem dX7_divisor_60 : decode cX7_divisor 60 = .ok (.iload 9, 2) := by decide +kernel
theorem dX7_divisor_62 : decode cX7_divisor 62 = .ok (.iload 7, 2) := by decide +kernel
theorem dX7_divisor_64 : decode cX7_divisor 64 = .ok (.if_icmp .le 8, 3) := by decide +kernel
theorem dX7_divisor_72 : decode cX7_divisor 72 = .ok (.iload 7, 2) := by decide +kernel
theorem dX7_divisor_67 : decode cX7_divisor 67 = .ok (.iload 9, 2) := by decide +kernel
theorem dX7_divisor_69 : decode cX7_divisor 69 = .ok (.goto 5, 3) := by decide +kernel
theorem dX7_divisor_56 : decode cX7_divisor 56 = .ok (.iconst 1, 1) := by decide +kernel
theorem dX7_divisor_57 : decode cX7_divisor 57 = .ok (.goto 17, 3) := by decide +kernel
theorem dX7_divisor_74 : decode cX7_divisor 74 = .ok (.istore 10, 2) := by decide +kernel
theorem dX7_divisor_76 : decode cX7_divisor 76 = .ok (.iload 7, 2) := by decide +kernel
theorem dX7_divisor_78 : decode cX7_divisor 78 = .ok (.ifCond .eq 10, 3) := by decide +kernel
theorem dX7_divisor_88 : decode cX7_divisor 88 = .ok (.iload 9, 2) := by decide +kernel
theorem dX7_divisor_90 : decode cX7_divisor 90 = .ok (.goto 5, 3) := by decide +kernel
theorem dX7_divisor_81 : decode cX7_divisor 81 = .ok (.iload 9, 2) := by decide +kernel
theorem dX7_divisor_83 : decode cX7_divisor 83 = .ok (.iload 7, 2) := by decide +kernel
theorem dX7_divisor_85 : decode cX7_divisor 85 = .ok (.if_icmp .ge 8, 3) := by decide +kernel
theorem dX7_divisor_93 : decode cX7_divisor 93 = .ok (.iload 7, 2) := by decide +kernel
theorem dX7_divisor_95 : decode cX7_divisor 95 = .ok (.istore 7, 2) := by decide +kernel
theorem dX7_divisor_97 : decode cX7_divisor 97 = .ok (.lload 5, 2) := by decide +kernel
theorem dX7_divisor_99 : decode cX7_divisor 99 = .ok (.ldc2_w 131, 3) := by decide +kernel
theorem dX7_divisor_102 : decode cX7_divisor 102 = .ok (.lcmp, 1) := by decide +kernel
theorem dX7_divisor_103 : decode cX7_divisor 103 = .ok (.ifCond .le 8, 3) := by decide +kernel
theorem dX7_divisor_111 : decode cX7_divisor 111 = .ok (.lload 5, 2) := by decide +kernel
theorem dX7_divisor_113 : decode cX7_divisor 113 = .ok (.iload 10, 2) := by decide +kernel
theorem dX7_divisor_115 : decode cX7_divisor 115 = .ok (.i2l, 1) := by decide +kernel
theorem dX7_divisor_116 : decode cX7_divisor 116 = .ok (.lmul, 1) := by decide +kernel
theorem dX7_divisor_117 : decode cX7_divisor 117 = .ok (.lstore 5, 2) := by decide +kernel
theorem dX7_divisor_106 : decode cX7_divisor 106 = .ok (.lload 5, 2) := by decide +kernel
theorem dX7_divisor_108 : decode cX7_divisor 108 = .ok (.goto 9, 3) := by decide +kernel
theorem dX7_divisor_125 : decode cX7_divisor 125 = .ok (.lload 5, 2) := by decide +kernel
theorem dX7_divisor_127 : decode cX7_divisor 127 = .ok (.lreturn, 1) := by decide +kernel
theorem dX7_estimateOf_0 : decode cX7_estimateOf 0 = .ok (.lconst 1, 1) := by decide +kernel
theorem dX7_estimateOf_1 : decode cX7_estimateOf 1 = .ok (.lstore_n 2, 1) := by decide +kernel
theorem dX7_estimateOf_2 : decode cX7_estimateOf 2 = .ok (.lconst 1, 1) := by decide +kernel
theorem dX7_estimateOf_3 : decode cX7_estimateOf 3 = .ok (.lstore 4, 2) := by decide +kernel
theorem dX7_estimateOf_5 : decode cX7_estimateOf 5 = .ok (.iconst 0, 1) := by decide +kernel
theorem dX7_estimateOf_6 : decode cX7_estimateOf 6 = .ok (.istore 6, 2) := by decide +kernel
theorem dX7_estimateOf_8 : decode cX7_estimateOf 8 = .ok (.iload 6, 2) := by decide +kernel
theorem dX7_estimateOf_10 : decode cX7_estimateOf 10 = .ok (.aload_n 0, 1) := by decide +kernel
theorem dX7_estimateOf_11 : decode cX7_estimateOf 11 = .ok (.getfield 87, 3) := by decide +kernel
theorem dX7_estimateOf_14 : decode cX7_estimateOf 14 = .ok (.if_icmp .ge 34, 3) := by decide +kernel
theorem dX7_estimateOf_17 : decode cX7_estimateOf 17 = .ok (.iload_n 1, 1) := by decide +kernel
theorem dX7_estimateOf_18 : decode cX7_estimateOf 18 = .ok (.iload 6, 2) := by decide +kernel
theorem dX7_estimateOf_20 : decode cX7_estimateOf 20 = .ok (.ishr, 1) := by decide +kernel
theorem dX7_estimateOf_21 : decode cX7_estimateOf 21 = .ok (.iconst 1, 1) := by decide +kernel
theorem dX7_estimateOf_22 : decode cX7_estimateOf 22 = .ok (.iand, 1) := by decide +kernel
theorem dX7_estimateOf_23 : decode cX7_estimateOf 23 = .ok (.iconst 1, 1) := by decide +kernel
theorem dX7_estimateOf_24 : decode cX7_estimateOf 24 = .ok (.if_icmp .ne 16, 3) := by decide +kernel
theorem dX7_estimateOf_40 : decode cX7_estimateOf 40 = .ok (.lload_n 2, 1) := by decide +kernel
theorem dX7_estimateOf_41 : decode cX7_estimateOf 41 = .ok (.lstore_n 2, 1) := by decide +kernel
theorem dX7_estimateOf_42 : decode cX7_estimateOf 42 = .ok (.iinc 6 1, 3) := by decide +kernel
theorem dX7_estimateOf_45 : decode cX7_estimateOf 45 = .ok (.goto (-37), 3) := by decide +kernel
theorem dX7_estimateOf_27 : decode cX7_estimateOf 27 = .ok (.lload_n 2, 1) := by decide +kernel
theorem dX7_estimateOf_28 : decode cX7_estimateOf 28 = .ok (.aload_n 0, 1) := by decide +kernel
theorem dX7_estimateOf_29 : decode cX7_estimateOf 29 = .ok (.getfield 38, 3) := by decide +kernel
theorem dX7_estimateOf_32 : decode cX7_estimateOf 32 = .ok (.iload 6, 2) := by decide +kernel
theorem dX7_estimateOf_34 : decode cX7_estimateOf 34 = .ok (.iaload, 1) := by decide +kernel
theorem dX7_estimateOf_35 : decode cX7_estimateOf 35 = .ok (.i2l, 1) := by decide +kernel
theorem dX7_estimateOf_36 : decode cX7_estimateOf 36 = .ok (.lmul, 1) := by decide +kernel
theorem dX7_estimateOf_37 : decode cX7_estimateOf 37 = .ok (.goto 4, 3) := by decide +kernel
theorem dX7_estimateOf_48 : decode cX7_estimateOf 48 = .ok (.iconst 0, 1) := by decide +kernel
theorem dX7_estimateOf_49 : decode cX7_estimateOf 49 = .ok (.istore 6, 2) := by decide +kernel
theorem dX7_estimateOf_51 : decode cX7_estimateOf 51 = .ok (.iload 6, 2) := by decide +kernel
theorem dX7_estimateOf_53 : decode cX7_estimateOf 53 = .ok (.bipush 8, 2) := by decide +kernel
theorem dX7_estimateOf_55 : decode cX7_estimateOf 55 = .ok (.if_icmp .ge 20, 3) := by decide +kernel
theorem dX7_estimateOf_58 : decode cX7_estimateOf 58 = .ok (.aload_n 0, 1) := by decide +kernel
theorem dX7_estimateOf_59 : decode cX7_estimateOf 59 = .ok (.iload_n 1, 1) := by decide +kernel
theorem dX7_estimateOf_60 : decode cX7_estimateOf 60 = .ok (.iload 6, 2) := by decide +kernel
theorem dX7_estimateOf_62 : decode cX7_estimateOf 62 = .ok (.lload 4, 2) := by decide +kernel
theorem dX7_estimateOf_64 : decode cX7_estimateOf 64 = .ok (.invokevirtual 133, 3) := by decide +kernel
theorem dX7_estimateOf_67 : decode cX7_estimateOf 67 = .ok (.lstore 4, 2) := by decide +kernel
theorem dX7_estimateOf_69 : decode cX7_estimateOf 69 = .ok (.iinc 6 1, 3) := by decide +kernel
theorem dX7_estimateOf_72 : decode cX7_estimateOf 72 = .ok (.goto (-21), 3) := by decide +kernel
theorem dX7_estimateOf_75 : decode cX7_estimateOf 75 = .ok (.lload_n 2, 1) := by decide +kernel
theorem dX7_estimateOf_76 : decode cX7_estimateOf 76 = .ok (.lload 4, 2) := by decide +kernel
theorem dX7_estimateOf_78 : decode cX7_estimateOf 78 = .ok (.ldiv, 1) := by decide +kernel
theorem dX7_estimateOf_79 : decode cX7_estimateOf 79 = .ok (.lload_n 2, 1) := by decide +kernel
theorem dX7_estimateOf_80 : decode cX7_estimateOf 80 = .ok (.lload 4, 2) := by decide +kernel
theorem dX7_estimateOf_82 : decode cX7_estimateOf 82 = .ok (.lrem, 1) := by decide +kernel
theorem dX7_estimateOf_83 : decode cX7_estimateOf 83 = .ok (.lconst 0, 1) := by decide +kernel
theorem dX7_estimateOf_84 : decode cX7_estimateOf 84 = .ok (.lcmp, 1) := by decide +kernel
theorem dX7_estimateOf_85 : decode cX7_estimateOf 85 = .ok (.ifCond .le 7, 3) := by decide +kernel
theorem dX7_estimateOf_92 : decode cX7_estimateOf 92 = .ok (.lconst 0, 1) := by decide +kernel
theorem dX7_estimateOf_93 : decode cX7_estimateOf 93 = .ok (.ladd, 1) := by decide +kernel
theorem dX7_estimateOf_94 : decode cX7_estimateOf 94 = .ok (.lreturn, 1) := by decide +kernel
theorem dX7_estimateOf_88 : decode cX7_estimateOf 88 = .ok (.lconst 1, 1) := by decide +kernel
theorem dX7_estimateOf_89 : decode cX7_estimateOf 89 = .ok (.goto 4, 3) := by decide +kernel
theorem dX7_variablesOf_0 : decode cX7_variablesOf 0 = .ok (.iconst 0, 1) := by decide +kernel
theorem dX7_variablesOf_1 : decode cX7_variablesOf 1 = .ok (.istore_n 2, 1) := by decide +kernel
theorem dX7_variablesOf_2 : decode cX7_variablesOf 2 = .ok (.iconst 0, 1) := by decide +kernel
theorem dX7_variablesOf_3 : decode cX7_variablesOf 3 = .ok (.istore_n 3, 1) := by decide +kernel
theorem dX7_variablesOf_4 : decode cX7_variablesOf 4 = .ok (.iload_n 3, 1) := by decide +kernel
theorem dX7_variablesOf_5 : decode cX7_variablesOf 5 = .ok (.aload_n 0, 1) := by decide +kernel
theorem dX7_variablesOf_6 : decode cX7_variablesOf 6 = .ok (.getfield 87, 3) := by decide +kernel
theorem dX7_variablesOf_9 : decode cX7_variablesOf 9 = .ok (.if_icmp .ge 60, 3) := by decide +kernel
theorem dX7_variablesOf_12 : decode cX7_variablesOf 12 = .ok (.iconst 0, 1) := by decide +kernel
theorem dX7_variablesOf_13 : decode cX7_variablesOf 13 = .ok (.istore 4, 2) := by decide +kernel
theorem dX7_variablesOf_15 : decode cX7_variablesOf 15 = .ok (.iload 4, 2) := by decide +kernel
theorem dX7_variablesOf_17 : decode cX7_variablesOf 17 = .ok (.bipush 8, 2) := by decide +kernel
theorem dX7_variablesOf_19 : decode cX7_variablesOf 19 = .ok (.if_icmp .ge 44, 3) := by decide +kernel
theorem dX7_variablesOf_22 : decode cX7_variablesOf 22 = .ok (.iload_n 1, 1) := by decide +kernel
theorem dX7_variablesOf_23 : decode cX7_variablesOf 23 = .ok (.iload_n 3, 1) := by decide +kernel
theorem dX7_variablesOf_24 : decode cX7_variablesOf 24 = .ok (.ishr, 1) := by decide +kernel
theorem dX7_variablesOf_25 : decode cX7_variablesOf 25 = .ok (.iconst 1, 1) := by decide +kernel
theorem dX7_variablesOf_26 : decode cX7_variablesOf 26 = .ok (.iand, 1) := by decide +kernel
theorem dX7_variablesOf_27 : decode cX7_variablesOf 27 = .ok (.iconst 1, 1) := by decide +kernel
theorem dX7_variablesOf_28 : decode cX7_variablesOf 28 = .ok (.if_icmp .ne 27, 3) := by decide +kernel
theorem dX7_variablesOf_55 : decode cX7_variablesOf 55 = .ok (.iload_n 2, 1) := by decide +kernel
theorem dX7_variablesOf_56 : decode cX7_variablesOf 56 = .ok (.istore_n 2, 1) := by decide +kernel
theorem dX7_variablesOf_57 : decode cX7_variablesOf 57 = .ok (.iinc 4 1, 3) := by decide +kernel
theorem dX7_variablesOf_60 : decode cX7_variablesOf 60 = .ok (.goto (-45), 3) := by decide +kernel
theorem dX7_variablesOf_31 : decode cX7_variablesOf 31 = .ok (.aload_n 0, 1) := by decide +kernel
theorem dX7_variablesOf_32 : decode cX7_variablesOf 32 = .ok (.getfield 41, 3) := by decide +kernel
theorem dX7_variablesOf_35 : decode cX7_variablesOf 35 = .ok (.bipush 8, 2) := by decide +kernel
theorem dX7_variablesOf_37 : decode cX7_variablesOf 37 = .ok (.iload_n 3, 1) := by decide +kernel
theorem dX7_variablesOf_38 : decode cX7_variablesOf 38 = .ok (.imul, 1) := by decide +kernel
theorem dX7_variablesOf_39 : decode cX7_variablesOf 39 = .ok (.iload 4, 2) := by decide +kernel
theorem dX7_variablesOf_41 : decode cX7_variablesOf 41 = .ok (.iadd, 1) := by decide +kernel
theorem dX7_variablesOf_42 : decode cX7_variablesOf 42 = .ok (.iaload, 1) := by decide +kernel
theorem dX7_variablesOf_43 : decode cX7_variablesOf 43 = .ok (.ifCond .le 12, 3) := by decide +kernel
theorem dX7_variablesOf_46 : decode cX7_variablesOf 46 = .ok (.iload_n 2, 1) := by decide +kernel
theorem dX7_variablesOf_47 : decode cX7_variablesOf 47 = .ok (.iconst 1, 1) := by decide +kernel
theorem dX7_variablesOf_48 : decode cX7_variablesOf 48 = .ok (.iload 4, 2) := by decide +kernel
theorem dX7_variablesOf_50 : decode cX7_variablesOf 50 = .ok (.ishl, 1) := by decide +kernel
theorem dX7_variablesOf_51 : decode cX7_variablesOf 51 = .ok (.ior, 1) := by decide +kernel
theorem dX7_variablesOf_52 : decode cX7_variablesOf 52 = .ok (.goto 4, 3) := by decide +kernel
theorem dX7_variablesOf_63 : decode cX7_variablesOf 63 = .ok (.iinc 3 1, 3) := by decide +kernel
theorem dX7_variablesOf_66 : decode cX7_variablesOf 66 = .ok (.goto (-62), 3) := by decide +kernel
theorem dX7_variablesOf_69 : decode cX7_variablesOf 69 = .ok (.iload_n 2, 1) := by decide +kernel
theorem dX7_variablesOf_70 : decode cX7_variablesOf 70 = .ok (.ireturn, 1) := by decide +kernel
theorem dX7_mayCome_0 : decode cX7_mayCome 0 = .ok (.iconst 0, 1) := by decide +kernel
theorem dX7_mayCome_1 : decode cX7_mayCome 1 = .ok (.istore_n 3, 1) := by decide +kernel
theorem dX7_mayCome_2 : decode cX7_mayCome 2 = .ok (.iconst 0, 1) := by decide +kernel
theorem dX7_mayCome_3 : decode cX7_mayCome 3 = .ok (.istore 4, 2) := by decide +kernel
theorem dX7_mayCome_5 : decode cX7_mayCome 5 = .ok (.iconst 0, 1) := by decide +kernel
theorem dX7_mayCome_6 : decode cX7_mayCome 6 = .ok (.istore 5, 2) := by decide +kernel
theorem dX7_mayCome_8 : decode cX7_mayCome 8 = .ok (.iload 5, 2) := by decide +kernel
theorem dX7_mayCome_10 : decode cX7_mayCome 10 = .ok (.aload_n 0, 1) := by decide +kernel
theorem dX7_mayCome_11 : decode cX7_mayCome 11 = .ok (.getfield 87, 3) := by decide +kernel
theorem dX7_mayCome_14 : decode cX7_mayCome 14 = .ok (.if_icmp .ge 143, 3) := by decide +kernel
theorem dX7_mayCome_17 : decode cX7_mayCome 17 = .ok (.iload_n 2, 1) := by decide +kernel
theorem dX7_mayCome_18 : decode cX7_mayCome 18 = .ok (.iload 5, 2) := by decide +kernel
theorem dX7_mayCome_20 : decode cX7_mayCome 20 = .ok (.ishr, 1) := by decide +kernel
theorem dX7_mayCome_21 : decode cX7_mayCome 21 = .ok (.iconst 1, 1) := by decide +kernel
theorem dX7_mayCome_22 : decode cX7_mayCome 22 = .ok (.iand, 1) := by decide +kernel
theorem dX7_mayCome_23 : decode cX7_mayCome 23 = .ok (.iconst 1, 1) := by decide +kernel
theorem dX7_mayCome_24 : decode cX7_mayCome 24 = .ok (.if_icmp .ne 16, 3) := by decide +kernel
theorem dX7_mayCome_40 : decode cX7_mayCome 40 = .ok (.iconst 0, 1) := by decide +kernel
theorem dX7_mayCome_27 : decode cX7_mayCome 27 = .ok (.iload_n 1, 1) := by decide +kernel
theorem dX7_mayCome_28 : decode cX7_mayCome 28 = .ok (.iload 5, 2) := by decide +kernel
theorem dX7_mayCome_30 : decode cX7_mayCome 30 = .ok (.ishr, 1) := by decide +kernel
theorem dX7_mayCome_31 : decode cX7_mayCome 31 = .ok (.iconst 1, 1) := by decide +kernel
theorem dX7_mayCome_32 : decode cX7_mayCome 32 = .ok (.iand, 1) := by decide +kernel
theorem dX7_mayCome_33 : decode cX7_mayCome 33 = .ok (.ifCond .ne 7, 3) := by decide +kernel
theorem dX7_mayCome_36 : decode cX7_mayCome 36 = .ok (.iconst 1, 1) := by decide +kernel
theorem dX7_mayCome_37 : decode cX7_mayCome 37 = .ok (.goto 4, 3) := by decide +kernel
theorem dX7_mayCome_41 : decode cX7_mayCome 41 = .ok (.istore 6, 2) := by decide +kernel
theorem dX7_mayCome_43 : decode cX7_mayCome 43 = .ok (.iconst 0, 1) := by decide +kernel
theorem dX7_mayCome_44 : decode cX7_mayCome 44 = .ok (.istore 7, 2) := by decide +kernel
theorem dX7_mayCome_46 : decode cX7_mayCome 46 = .ok (.iload 7, 2) := by decide +kernel
theorem dX7_mayCome_48 : decode cX7_mayCome 48 = .ok (.aload_n 0, 1) := by decide +kernel
theorem dX7_mayCome_49 : decode cX7_mayCome 49 = .ok (.getfield 87, 3) := by decide +kernel
theorem dX7_mayCome_52 : decode cX7_mayCome 52 = .ok (.if_icmp .ge 47, 3) := by decide +kernel
theorem dX7_mayCome_55 : decode cX7_mayCome 55 = .ok (.iload 6, 2) := by decide +kernel
theorem dX7_mayCome_57 : decode cX7_mayCome 57 = .ok (.ifCond .eq 33, 3) := by decide +kernel
theorem dX7_mayCome_90 : decode cX7_mayCome 90 = .ok (.iconst 0, 1) := by decide +kernel
theorem dX7_mayCome_91 : decode cX7_mayCome 91 = .ok (.istore 6, 2) := by decide +kernel
theorem dX7_mayCome_93 : decode cX7_mayCome 93 = .ok (.iinc 7 1, 3) := by decide +kernel
theorem dX7_mayCome_96 : decode cX7_mayCome 96 = .ok (.goto (-50), 3) := by decide +kernel
theorem dX7_mayCome_60 : decode cX7_mayCome 60 = .ok (.aload_n 0, 1) := by decide +kernel
theorem dX7_mayCome_61 : decode cX7_mayCome 61 = .ok (.getfield 22, 3) := by decide +kernel
theorem dX7_mayCome_64 : decode cX7_mayCome 64 = .ok (.bipush 8, 2) := by decide +kernel
theorem dX7_mayCome_66 : decode cX7_mayCome 66 = .ok (.iload 7, 2) := by decide +kernel
theorem dX7_mayCome_68 : decode cX7_mayCome 68 = .ok (.imul, 1) := by decide +kernel
theorem dX7_mayCome_69 : decode cX7_mayCome 69 = .ok (.iload 5, 2) := by decide +kernel
theorem dX7_mayCome_71 : decode cX7_mayCome 71 = .ok (.iadd, 1) := by decide +kernel
theorem dX7_mayCome_72 : decode cX7_mayCome 72 = .ok (.baload, 1) := by decide +kernel
theorem dX7_mayCome_73 : decode cX7_mayCome 73 = .ok (.ifCond .eq 13, 3) := by decide +kernel
theorem dX7_mayCome_86 : decode cX7_mayCome 86 = .ok (.iconst 1, 1) := by decide +kernel
theorem dX7_mayCome_87 : decode cX7_mayCome 87 = .ok (.goto 4, 3) := by decide +kernel
theorem dX7_mayCome_76 : decode cX7_mayCome 76 = .ok (.iload_n 1, 1) := by decide +kernel
theorem dX7_mayCome_77 : decode cX7_mayCome 77 = .ok (.iload 7, 2) := by decide +kernel
theorem dX7_mayCome_79 : decode cX7_mayCome 79 = .ok (.ishr, 1) := by decide +kernel
theorem dX7_mayCome_80 : decode cX7_mayCome 80 = .ok (.iconst 1, 1) := by decide +kernel
theorem dX7_mayCome_81 : decode cX7_mayCome 81 = .ok (.iand, 1) := by decide +kernel
theorem dX7_mayCome_82 : decode cX7_mayCome 82 = .ok (.iconst 1, 1) := by decide +kernel
theorem dX7_mayCome_83 : decode cX7_mayCome 83 = .ok (.if_icmp .ne 7, 3) := by decide +kernel
theorem dX7_mayCome_99 : decode cX7_mayCome 99 = .ok (.iload 6, 2) := by decide +kernel
theorem dX7_mayCome_101 : decode cX7_mayCome 101 = .ok (.ifCond .eq 12, 3) := by decide +kernel
theorem dX7_mayCome_113 : decode cX7_mayCome 113 = .ok (.iload_n 3, 1) := by decide +kernel
theorem dX7_mayCome_104 : decode cX7_mayCome 104 = .ok (.iload_n 3, 1) := by decide +kernel
theorem dX7_mayCome_105 : decode cX7_mayCome 105 = .ok (.iconst 1, 1) := by decide +kernel
theorem dX7_mayCome_106 : decode cX7_mayCome 106 = .ok (.iload 5, 2) := by decide +kernel
theorem dX7_mayCome_108 : decode cX7_mayCome 108 = .ok (.ishl, 1) := by decide +kernel
theorem dX7_mayCome_109 : decode cX7_mayCome 109 = .ok (.ior, 1) := by decide +kernel
theorem dX7_mayCome_110 : decode cX7_mayCome 110 = .ok (.goto 4, 3) := by decide +kernel
theorem dX7_mayCome_114 : decode cX7_mayCome 114 = .ok (.istore_n 3, 1) := by decide +kernel
theorem dX7_mayCome_115 : decode cX7_mayCome 115 = .ok (.iload 6, 2) := by decide +kernel
theorem dX7_mayCome_117 : decode cX7_mayCome 117 = .ok (.ifCond .eq 30, 3) := by decide +kernel
theorem dX7_mayCome_147 : decode cX7_mayCome 147 = .ok (.iload 4, 2) := by decide +kernel
theorem dX7_mayCome_149 : decode cX7_mayCome 149 = .ok (.istore 4, 2) := by decide +kernel
theorem dX7_mayCome_151 : decode cX7_mayCome 151 = .ok (.iinc 5 1, 3) := by decide +kernel
theorem dX7_mayCome_154 : decode cX7_mayCome 154 = .ok (.goto (-146), 3) := by decide +kernel
theorem dX7_mayCome_120 : decode cX7_mayCome 120 = .ok (.aload_n 0, 1) := by decide +kernel
theorem dX7_mayCome_121 : decode cX7_mayCome 121 = .ok (.iload_n 1, 1) := by decide +kernel
theorem dX7_mayCome_122 : decode cX7_mayCome 122 = .ok (.invokevirtual 137, 3) := by decide +kernel
theorem dX7_mayCome_125 : decode cX7_mayCome 125 = .ok (.aload_n 0, 1) := by decide +kernel
theorem dX7_mayCome_126 : decode cX7_mayCome 126 = .ok (.iconst 1, 1) := by decide +kernel
theorem dX7_mayCome_127 : decode cX7_mayCome 127 = .ok (.iload 5, 2) := by decide +kernel
theorem dX7_mayCome_129 : decode cX7_mayCome 129 = .ok (.ishl, 1) := by decide +kernel
theorem dX7_mayCome_130 : decode cX7_mayCome 130 = .ok (.invokevirtual 137, 3) := by decide +kernel
theorem dX7_mayCome_133 : decode cX7_mayCome 133 = .ok (.iand, 1) := by decide +kernel
theorem dX7_mayCome_134 : decode cX7_mayCome 134 = .ok (.ifCond .eq 13, 3) := by decide +kernel
theorem dX7_mayCome_137 : decode cX7_mayCome 137 = .ok (.iload 4, 2) := by decide +kernel
theorem dX7_mayCome_139 : decode cX7_mayCome 139 = .ok (.iconst 1, 1) := by decide +kernel
theorem dX7_mayCome_140 : decode cX7_mayCome 140 = .ok (.iload 5, 2) := by decide +kernel
theorem dX7_mayCome_142 : decode cX7_mayCome 142 = .ok (.ishl, 1) := by decide +kernel
theorem dX7_mayCome_143 : decode cX7_mayCome 143 = .ok (.ior, 1) := by decide +kernel
theorem dX7_mayCome_144 : decode cX7_mayCome 144 = .ok (.goto 5, 3) := by decide +kernel
theorem dX7_mayCome_157 : decode cX7_mayCome 157 = .ok (.iload 4, 2) := by decide +kernel
theorem dX7_mayCome_159 : decode cX7_mayCome 159 = .ok (.ifCond .eq 8, 3) := by decide +kernel
theorem dX7_mayCome_167 : decode cX7_mayCome 167 = .ok (.iload_n 3, 1) := by decide +kernel
theorem dX7_mayCome_168 : decode cX7_mayCome 168 = .ok (.ireturn, 1) := by decide +kernel
theorem dX7_mayCome_162 : decode cX7_mayCome 162 = .ok (.iload 4, 2) := by decide +kernel
theorem dX7_mayCome_164 : decode cX7_mayCome 164 = .ok (.goto 4, 3) := by decide +kernel
theorem dX7_fillTables_0 : decode cX7_fillTables 0 = .ok (.iload_n 1, 1) := by decide +kernel
theorem dX7_fillTables_1 : decode cX7_fillTables 1 = .ok (.istore_n 2, 1) := by decide +kernel
theorem dX7_fillTables_2 : decode cX7_fillTables 2 = .ok (.iload_n 2, 1) := by decide +kernel
theorem dX7_fillTables_3 : decode cX7_fillTables 3 = .ok (.ifCond .lt 171, 3) := by decide +kernel
theorem dX7_fillTables_6 : decode cX7_fillTables 6 = .ok (.iload_n 2, 1) := by decide +kernel
theorem dX7_fillTables_7 : decode cX7_fillTables 7 = .ok (.iload_n 1, 1) := by decide +kernel
theorem dX7_fillTables_8 : decode cX7_fillTables 8 = .ok (.iconst (-1), 1) := by decide +kernel
theorem dX7_fillTables_9 : decode cX7_fillTables 9 = .ok (.ixor, 1) := by decide +kernel
theorem dX7_fillTables_10 : decode cX7_fillTables 10 = .ok (.iand, 1) := by decide +kernel
theorem dX7_fillTables_11 : decode cX7_fillTables 11 = .ok (.ifCond .ne 157, 3) := by decide +kernel
theorem dX7_fillTables_168 : decode cX7_fillTables 168 = .ok (.iinc 2 (-1), 3) := by decide +kernel
theorem dX7_fillTables_171 : decode cX7_fillTables 171 = .ok (.goto (-169), 3) := by decide +kernel
theorem dX7_fillTables_14 : decode cX7_fillTables 14 = .ok (.aload_n 0, 1) := by decide +kernel
theorem dX7_fillTables_15 : decode cX7_fillTables 15 = .ok (.getfield 47, 3) := by decide +kernel
theorem dX7_fillTables_18 : decode cX7_fillTables 18 = .ok (.iload_n 2, 1) := by decide +kernel
theorem dX7_fillTables_19 : decode cX7_fillTables 19 = .ok (.aload_n 0, 1) := by decide +kernel
theorem dX7_fillTables_20 : decode cX7_fillTables 20 = .ok (.iload_n 2, 1) := by decide +kernel
theorem dX7_fillTables_21 : decode cX7_fillTables 21 = .ok (.invokevirtual 140, 3) := by decide +kernel
theorem dX7_fillTables_24 : decode cX7_fillTables 24 = .ok (.lastore, 1) := by decide +kernel
theorem dX7_fillTables_25 : decode cX7_fillTables 25 = .ok (.aload_n 0, 1) := by decide +kernel
theorem dX7_fillTables_26 : decode cX7_fillTables 26 = .ok (.getfield 51, 3) := by decide +kernel
theorem dX7_fillTables_29 : decode cX7_fillTables 29 = .ok (.iload_n 2, 1) := by decide +kernel
theorem dX7_fillTables_30 : decode cX7_fillTables 30 = .ok (.iload_n 2, 1) := by decide +kernel
theorem dX7_fillTables_31 : decode cX7_fillTables 31 = .ok (.iload_n 1, 1) := by decide +kernel
theorem dX7_fillTables_32 : decode cX7_fillTables 32 = .ok (.if_icmp .ne 7, 3) := by decide +kernel
theorem dX7_fillTables_39 : decode cX7_fillTables 39 = .ok (.ldc2_w 144, 3) := by decide +kernel
theorem dX7_fillTables_35 : decode cX7_fillTables 35 = .ok (.lconst 0, 1) := by decide +kernel
theorem dX7_fillTables_36 : decode cX7_fillTables 36 = .ok (.goto 6, 3) := by decide +kernel
theorem dX7_fillTables_42 : decode cX7_fillTables 42 = .ok (.lastore, 1) := by decide +kernel
theorem dX7_fillTables_43 : decode cX7_fillTables 43 = .ok (.iload_n 2, 1) := by decide +kernel
theorem dX7_fillTables_44 : decode cX7_fillTables 44 = .ok (.iload_n 1, 1) := by decide +kernel
theorem dX7_fillTables_45 : decode cX7_fillTables 45 = .ok (.if_icmp .ne 7, 3) := by decide +kernel
theorem dX7_fillTables_52 : decode cX7_fillTables 52 = .ok (.aload_n 0, 1) := by decide +kernel
theorem dX7_fillTables_53 : decode cX7_fillTables 53 = .ok (.iload_n 2, 1) := by decide +kernel
theorem dX7_fillTables_54 : decode cX7_fillTables 54 = .ok (.iload_n 1, 1) := by decide +kernel
theorem dX7_fillTables_55 : decode cX7_fillTables 55 = .ok (.invokevirtual 146, 3) := by decide +kernel
theorem dX7_fillTables_48 : decode cX7_fillTables 48 = .ok (.iconst 0, 1) := by decide +kernel
theorem dX7_fillTables_49 : decode cX7_fillTables 49 = .ok (.goto 9, 3) := by decide +kernel
theorem dX7_fillTables_58 : decode cX7_fillTables 58 = .ok (.istore_n 3, 1) := by decide +kernel
theorem dX7_fillTables_59 : decode cX7_fillTables 59 = .ok (.iconst 0, 1) := by decide +kernel
theorem dX7_fillTables_60 : decode cX7_fillTables 60 = .ok (.istore 4, 2) := by decide +kernel
theorem dX7_fillTables_62 : decode cX7_fillTables 62 = .ok (.iload 4, 2) := by decide +kernel
theorem dX7_fillTables_64 : decode cX7_fillTables 64 = .ok (.aload_n 0, 1) := by decide +kernel
theorem dX7_fillTables_65 : decode cX7_fillTables 65 = .ok (.getfield 87, 3) := by decide +kernel
theorem dX7_fillTables_68 : decode cX7_fillTables 68 = .ok (.if_icmp .ge 100, 3) := by decide +kernel
theorem dX7_fillTables_71 : decode cX7_fillTables 71 = .ok (.iload_n 3, 1) := by decide +kernel
theorem dX7_fillTables_72 : decode cX7_fillTables 72 = .ok (.iload 4, 2) := by decide +kernel
theorem dX7_fillTables_74 : decode cX7_fillTables 74 = .ok (.ishr, 1) := by decide +kernel
theorem dX7_fillTables_75 : decode cX7_fillTables 75 = .ok (.iconst 1, 1) := by decide +kernel
theorem dX7_fillTables_76 : decode cX7_fillTables 76 = .ok (.iand, 1) := by decide +kernel
theorem dX7_fillTables_77 : decode cX7_fillTables 77 = .ok (.iconst 1, 1) := by decide +kernel
theorem dX7_fillTables_78 : decode cX7_fillTables 78 = .ok (.if_icmp .ne 84, 3) := by decide +kernel
theorem dX7_fillTables_162 : decode cX7_fillTables 162 = .ok (.iinc 4 1, 3) := by decide +kernel
theorem dX7_fillTables_165 : decode cX7_fillTables 165 = .ok (.goto (-103), 3) := by decide +kernel
theorem dX7_fillTables_81 : decode cX7_fillTables 81 = .ok (.aload_n 0, 1) := by decide +kernel
theorem dX7_fillTables_82 : decode cX7_fillTables 82 = .ok (.getfield 51, 3) := by decide +kernel
theorem dX7_fillTables_85 : decode cX7_fillTables 85 = .ok (.iload_n 2, 1) := by decide +kernel
theorem dX7_fillTables_86 : decode cX7_fillTables 86 = .ok (.iconst 1, 1) := by decide +kernel
theorem dX7_fillTables_87 : decode cX7_fillTables 87 = .ok (.iload 4, 2) := by decide +kernel
theorem dX7_fillTables_89 : decode cX7_fillTables 89 = .ok (.ishl, 1) := by decide +kernel
theorem dX7_fillTables_90 : decode cX7_fillTables 90 = .ok (.ior, 1) := by decide +kernel
theorem dX7_fillTables_91 : decode cX7_fillTables 91 = .ok (.laload, 1) := by decide +kernel
theorem dX7_fillTables_92 : decode cX7_fillTables 92 = .ok (.lconst 0, 1) := by decide +kernel
theorem dX7_fillTables_93 : decode cX7_fillTables 93 = .ok (.lcmp, 1) := by decide +kernel
theorem dX7_fillTables_94 : decode cX7_fillTables 94 = .ok (.ifCond .lt 68, 3) := by decide +kernel
theorem dX7_fillTables_97 : decode cX7_fillTables 97 = .ok (.aload_n 0, 1) := by decide +kernel
theorem dX7_fillTables_98 : decode cX7_fillTables 98 = .ok (.getfield 47, 3) := by decide +kernel
theorem dX7_fillTables_101 : decode cX7_fillTables 101 = .ok (.iload_n 2, 1) := by decide +kernel
theorem dX7_fillTables_102 : decode cX7_fillTables 102 = .ok (.iconst 1, 1) := by decide +kernel
theorem dX7_fillTables_103 : decode cX7_fillTables 103 = .ok (.iload 4, 2) := by decide +kernel
theorem dX7_fillTables_105 : decode cX7_fillTables 105 = .ok (.ishl, 1) := by decide +kernel
theorem dX7_fillTables_106 : decode cX7_fillTables 106 = .ok (.ior, 1) := by decide +kernel
theorem dX7_fillTables_107 : decode cX7_fillTables 107 = .ok (.laload, 1) := by decide +kernel
theorem dX7_fillTables_108 : decode cX7_fillTables 108 = .ok (.aload_n 0, 1) := by decide +kernel
theorem dX7_fillTables_109 : decode cX7_fillTables 109 = .ok (.getfield 51, 3) := by decide +kernel
theorem dX7_fillTables_112 : decode cX7_fillTables 112 = .ok (.iload_n 2, 1) := by decide +kernel
theorem dX7_fillTables_113 : decode cX7_fillTables 113 = .ok (.iconst 1, 1) := by decide +kernel
theorem dX7_fillTables_114 : decode cX7_fillTables 114 = .ok (.iload 4, 2) := by decide +kernel
theorem dX7_fillTables_116 : decode cX7_fillTables 116 = .ok (.ishl, 1) := by decide +kernel
theorem dX7_fillTables_117 : decode cX7_fillTables 117 = .ok (.ior, 1) := by decide +kernel
theorem dX7_fillTables_118 : decode cX7_fillTables 118 = .ok (.laload, 1) := by decide +kernel
theorem dX7_fillTables_119 : decode cX7_fillTables 119 = .ok (.ladd, 1) := by decide +kernel
theorem dX7_fillTables_120 : decode cX7_fillTables 120 = .ok (.lstore 5, 2) := by decide +kernel
theorem dX7_fillTables_122 : decode cX7_fillTables 122 = .ok (.aload_n 0, 1) := by decide +kernel
theorem dX7_fillTables_123 : decode cX7_fillTables 123 = .ok (.getfield 51, 3) := by decide +kernel
theorem dX7_fillTables_126 : decode cX7_fillTables 126 = .ok (.iload_n 2, 1) := by decide +kernel
theorem dX7_fillTables_127 : decode cX7_fillTables 127 = .ok (.aload_n 0, 1) := by decide +kernel
theorem dX7_fillTables_128 : decode cX7_fillTables 128 = .ok (.getfield 51, 3) := by decide +kernel
theorem dX7_fillTables_131 : decode cX7_fillTables 131 = .ok (.iload_n 2, 1) := by decide +kernel
theorem dX7_fillTables_132 : decode cX7_fillTables 132 = .ok (.laload, 1) := by decide +kernel
theorem dX7_fillTables_133 : decode cX7_fillTables 133 = .ok (.lconst 0, 1) := by decide +kernel
theorem dX7_fillTables_134 : decode cX7_fillTables 134 = .ok (.lcmp, 1) := by decide +kernel
theorem dX7_fillTables_135 : decode cX7_fillTables 135 = .ok (.ifCond .lt 15, 3) := by decide +kernel
theorem dX7_fillTables_150 : decode cX7_fillTables 150 = .ok (.lload 5, 2) := by decide +kernel
theorem dX7_fillTables_152 : decode cX7_fillTables 152 = .ok (.goto 9, 3) := by decide +kernel
theorem dX7_fillTables_161 : decode cX7_fillTables 161 = .ok (.lastore, 1) := by decide +kernel
theorem dX7_fillTables_138 : decode cX7_fillTables 138 = .ok (.lload 5, 2) := by decide +kernel
theorem dX7_fillTables_140 : decode cX7_fillTables 140 = .ok (.aload_n 0, 1) := by decide +kernel
theorem dX7_fillTables_141 : decode cX7_fillTables 141 = .ok (.getfield 51, 3) := by decide +kernel
theorem dX7_fillTables_144 : decode cX7_fillTables 144 = .ok (.iload_n 2, 1) := by decide +kernel
theorem dX7_fillTables_145 : decode cX7_fillTables 145 = .ok (.laload, 1) := by decide +kernel
theorem dX7_fillTables_146 : decode cX7_fillTables 146 = .ok (.lcmp, 1) := by decide +kernel
theorem dX7_fillTables_147 : decode cX7_fillTables 147 = .ok (.ifCond .ge 8, 3) := by decide +kernel
theorem dX7_fillTables_155 : decode cX7_fillTables 155 = .ok (.aload_n 0, 1) := by decide +kernel
theorem dX7_fillTables_156 : decode cX7_fillTables 156 = .ok (.getfield 51, 3) := by decide +kernel
theorem dX7_fillTables_159 : decode cX7_fillTables 159 = .ok (.iload_n 2, 1) := by decide +kernel
theorem dX7_fillTables_160 : decode cX7_fillTables 160 = .ok (.laload, 1) := by decide +kernel
theorem dX7_fillTables_174 : decode cX7_fillTables 174 = .ok (.return_, 1) := by decide +kernel
theorem dX7_putRequired_0 : decode cX7_putRequired 0 = .ok (.iconst 0, 1) := by decide +kernel
theorem dX7_putRequired_1 : decode cX7_putRequired 1 = .ok (.istore_n 2, 1) := by decide +kernel
theorem dX7_putRequired_2 : decode cX7_putRequired 2 = .ok (.iload_n 2, 1) := by decide +kernel
theorem dX7_putRequired_3 : decode cX7_putRequired 3 = .ok (.iload_n 1, 1) := by decide +kernel
theorem dX7_putRequired_4 : decode cX7_putRequired 4 = .ok (.if_icmp .eq 231, 3) := by decide +kernel
theorem dX7_putRequired_7 : decode cX7_putRequired 7 = .ok (.aload_n 0, 1) := by decide +kernel
theorem dX7_putRequired_8 : decode cX7_putRequired 8 = .ok (.iload_n 2, 1) := by decide +kernel
theorem dX7_putRequired_9 : decode cX7_putRequired 9 = .ok (.iload_n 1, 1) := by decide +kernel
theorem dX7_putRequired_10 : decode cX7_putRequired 10 = .ok (.invokevirtual 146, 3) := by decide +kernel
theorem dX7_putRequired_13 : decode cX7_putRequired 13 = .ok (.istore_n 3, 1) := by decide +kernel
theorem dX7_putRequired_14 : decode cX7_putRequired 14 = .ok (.iconst (-1), 1) := by decide +kernel
theorem dX7_putRequired_15 : decode cX7_putRequired 15 = .ok (.istore 4, 2) := by decide +kernel
theorem dX7_putRequired_17 : decode cX7_putRequired 17 = .ok (.aload_n 0, 1) := by decide +kernel
theorem dX7_putRequired_18 : decode cX7_putRequired 18 = .ok (.getfield 87, 3) := by decide +kernel
theorem dX7_putRequired_21 : decode cX7_putRequired 21 = .ok (.iconst 1, 1) := by decide +kernel
theorem dX7_putRequired_22 : decode cX7_putRequired 22 = .ok (.isub, 1) := by decide +kernel
theorem dX7_putRequired_23 : decode cX7_putRequired 23 = .ok (.istore 5, 2) := by decide +kernel
theorem dX7_putRequired_25 : decode cX7_putRequired 25 = .ok (.iload 5, 2) := by decide +kernel
theorem dX7_putRequired_27 : decode cX7_putRequired 27 = .ok (.ifCond .lt 89, 3) := by decide +kernel
theorem dX7_putRequired_30 : decode cX7_putRequired 30 = .ok (.iload_n 3, 1) := by decide +kernel
theorem dX7_putRequired_31 : decode cX7_putRequired 31 = .ok (.iload 5, 2) := by decide +kernel
theorem dX7_putRequired_33 : decode cX7_putRequired 33 = .ok (.ishr, 1) := by decide +kernel
theorem dX7_putRequired_34 : decode cX7_putRequired 34 = .ok (.iconst 1, 1) := by decide +kernel
theorem dX7_putRequired_35 : decode cX7_putRequired 35 = .ok (.iand, 1) := by decide +kernel
theorem dX7_putRequired_36 : decode cX7_putRequired 36 = .ok (.iconst 1, 1) := by decide +kernel
theorem dX7_putRequired_37 : decode cX7_putRequired 37 = .ok (.if_icmp .ne 56, 3) := by decide +kernel
theorem dX7_putRequired_93 : decode cX7_putRequired 93 = .ok (.iconst 0, 1) := by decide +kernel
theorem dX7_putRequired_40 : decode cX7_putRequired 40 = .ok (.aload_n 0, 1) := by decide +kernel
theorem dX7_putRequired_41 : decode cX7_putRequired 41 = .ok (.getfield 51, 3) := by decide +kernel
theorem dX7_putRequired_44 : decode cX7_putRequired 44 = .ok (.iload_n 2, 1) := by decide +kernel
theorem dX7_putRequired_45 : decode cX7_putRequired 45 = .ok (.iconst 1, 1) := by decide +kernel
theorem dX7_putRequired_46 : decode cX7_putRequired 46 = .ok (.iload 5, 2) := by decide +kernel
theorem dX7_putRequired_48 : decode cX7_putRequired 48 = .ok (.ishl, 1) := by decide +kernel
theorem dX7_putRequired_49 : decode cX7_putRequired 49 = .ok (.ior, 1) := by decide +kernel
theorem dX7_putRequired_50 : decode cX7_putRequired 50 = .ok (.laload, 1) := by decide +kernel
theorem dX7_putRequired_51 : decode cX7_putRequired 51 = .ok (.lconst 0, 1) := by decide +kernel
theorem dX7_putRequired_52 : decode cX7_putRequired 52 = .ok (.lcmp, 1) := by decide +kernel
theorem dX7_putRequired_53 : decode cX7_putRequired 53 = .ok (.ifCond .lt 40, 3) := by decide +kernel
theorem dX7_putRequired_56 : decode cX7_putRequired 56 = .ok (.aload_n 0, 1) := by decide +kernel
theorem dX7_putRequired_57 : decode cX7_putRequired 57 = .ok (.getfield 47, 3) := by decide +kernel
theorem dX7_putRequired_60 : decode cX7_putRequired 60 = .ok (.iload_n 2, 1) := by decide +kernel
theorem dX7_putRequired_61 : decode cX7_putRequired 61 = .ok (.iconst 1, 1) := by decide +kernel
theorem dX7_putRequired_62 : decode cX7_putRequired 62 = .ok (.iload 5, 2) := by decide +kernel
theorem dX7_putRequired_64 : decode cX7_putRequired 64 = .ok (.ishl, 1) := by decide +kernel
theorem dX7_putRequired_65 : decode cX7_putRequired 65 = .ok (.ior, 1) := by decide +kernel
theorem dX7_putRequired_66 : decode cX7_putRequired 66 = .ok (.laload, 1) := by decide +kernel
theorem dX7_putRequired_67 : decode cX7_putRequired 67 = .ok (.aload_n 0, 1) := by decide +kernel
theorem dX7_putRequired_68 : decode cX7_putRequired 68 = .ok (.getfield 51, 3) := by decide +kernel
theorem dX7_putRequired_71 : decode cX7_putRequired 71 = .ok (.iload_n 2, 1) := by decide +kernel
theorem dX7_putRequired_72 : decode cX7_putRequired 72 = .ok (.iconst 1, 1) := by decide +kernel
theorem dX7_putRequired_73 : decode cX7_putRequired 73 = .ok (.iload 5, 2) := by decide +kernel
theorem dX7_putRequired_75 : decode cX7_putRequired 75 = .ok (.ishl, 1) := by decide +kernel
theorem dX7_putRequired_76 : decode cX7_putRequired 76 = .ok (.ior, 1) := by decide +kernel
theorem dX7_putRequired_77 : decode cX7_putRequired 77 = .ok (.laload, 1) := by decide +kernel
theorem dX7_putRequired_78 : decode cX7_putRequired 78 = .ok (.ladd, 1) := by decide +kernel
theorem dX7_putRequired_79 : decode cX7_putRequired 79 = .ok (.aload_n 0, 1) := by decide +kernel
theorem dX7_putRequired_80 : decode cX7_putRequired 80 = .ok (.getfield 51, 3) := by decide +kernel
theorem dX7_putRequired_83 : decode cX7_putRequired 83 = .ok (.iload_n 2, 1) := by decide +kernel
theorem dX7_putRequired_84 : decode cX7_putRequired 84 = .ok (.laload, 1) := by decide +kernel
theorem dX7_putRequired_85 : decode cX7_putRequired 85 = .ok (.lcmp, 1) := by decide +kernel
theorem dX7_putRequired_86 : decode cX7_putRequired 86 = .ok (.ifCond .ne 7, 3) := by decide +kernel
theorem dX7_putRequired_89 : decode cX7_putRequired 89 = .ok (.iconst 1, 1) := by decide +kernel
theorem dX7_putRequired_90 : decode cX7_putRequired 90 = .ok (.goto 4, 3) := by decide +kernel
theorem dX7_putRequired_94 : decode cX7_putRequired 94 = .ok (.istore 6, 2) := by decide +kernel
theorem dX7_putRequired_96 : decode cX7_putRequired 96 = .ok (.iload 6, 2) := by decide +kernel
theorem dX7_putRequired_98 : decode cX7_putRequired 98 = .ok (.ifCond .eq 8, 3) := by decide +kernel
theorem dX7_putRequired_106 : decode cX7_putRequired 106 = .ok (.iload 4, 2) := by decide +kernel
theorem dX7_putRequired_108 : decode cX7_putRequired 108 = .ok (.istore 4, 2) := by decide +kernel
theorem dX7_putRequired_110 : decode cX7_putRequired 110 = .ok (.iinc 5 (-1), 3) := by decide +kernel
theorem dX7_putRequired_113 : decode cX7_putRequired 113 = .ok (.goto (-88), 3) := by decide +kernel
theorem dX7_putRequired_101 : decode cX7_putRequired 101 = .ok (.iload 5, 2) := by decide +kernel
theorem dX7_putRequired_103 : decode cX7_putRequired 103 = .ok (.goto 5, 3) := by decide +kernel
theorem dX7_putRequired_116 : decode cX7_putRequired 116 = .ok (.aload_n 0, 1) := by decide +kernel
theorem dX7_putRequired_117 : decode cX7_putRequired 117 = .ok (.iload_n 2, 1) := by decide +kernel
theorem dX7_putRequired_118 : decode cX7_putRequired 118 = .ok (.invokevirtual 137, 3) := by decide +kernel
theorem dX7_putRequired_121 : decode cX7_putRequired 121 = .ok (.aload_n 0, 1) := by decide +kernel
theorem dX7_putRequired_122 : decode cX7_putRequired 122 = .ok (.iconst 1, 1) := by decide +kernel
theorem dX7_putRequired_123 : decode cX7_putRequired 123 = .ok (.iload 4, 2) := by decide +kernel
theorem dX7_putRequired_125 : decode cX7_putRequired 125 = .ok (.ishl, 1) := by decide +kernel
theorem dX7_putRequired_126 : decode cX7_putRequired 126 = .ok (.invokevirtual 137, 3) := by decide +kernel
theorem dX7_putRequired_129 : decode cX7_putRequired 129 = .ok (.iand, 1) := by decide +kernel
theorem dX7_putRequired_130 : decode cX7_putRequired 130 = .ok (.ifCond .eq 7, 3) := by decide +kernel
theorem dX7_putRequired_137 : decode cX7_putRequired 137 = .ok (.iconst 0, 1) := by decide +kernel
theorem dX7_putRequired_133 : decode cX7_putRequired 133 = .ok (.iconst 1, 1) := by decide +kernel
theorem dX7_putRequired_134 : decode cX7_putRequired 134 = .ok (.goto 4, 3) := by decide +kernel
theorem dX7_putRequired_138 : decode cX7_putRequired 138 = .ok (.istore 5, 2) := by decide +kernel
theorem dX7_putRequired_140 : decode cX7_putRequired 140 = .ok (.aload_n 0, 1) := by decide +kernel
theorem dX7_putRequired_141 : decode cX7_putRequired 141 = .ok (.getfield 54, 3) := by decide +kernel
theorem dX7_putRequired_144 : decode cX7_putRequired 144 = .ok (.aload_n 0, 1) := by decide +kernel
theorem dX7_putRequired_145 : decode cX7_putRequired 145 = .ok (.getfield 149, 3) := by decide +kernel
theorem dX7_putRequired_148 : decode cX7_putRequired 148 = .ok (.iload 4, 2) := by decide +kernel
theorem dX7_putRequired_150 : decode cX7_putRequired 150 = .ok (.iastore, 1) := by decide +kernel
theorem dX7_putRequired_151 : decode cX7_putRequired 151 = .ok (.aload_n 0, 1) := by decide +kernel
theorem dX7_putRequired_152 : decode cX7_putRequired 152 = .ok (.getfield 57, 3) := by decide +kernel
theorem dX7_putRequired_155 : decode cX7_putRequired 155 = .ok (.aload_n 0, 1) := by decide +kernel
theorem dX7_putRequired_156 : decode cX7_putRequired 156 = .ok (.getfield 149, 3) := by decide +kernel
theorem dX7_putRequired_159 : decode cX7_putRequired 159 = .ok (.iload_n 2, 1) := by decide +kernel
theorem dX7_putRequired_160 : decode cX7_putRequired 160 = .ok (.ifCond .ne 7, 3) := by decide +kernel
theorem dX7_putRequired_167 : decode cX7_putRequired 167 = .ok (.iload 5, 2) := by decide +kernel
theorem dX7_putRequired_169 : decode cX7_putRequired 169 = .ok (.ifCond .ne 7, 3) := by decide +kernel
theorem dX7_putRequired_176 : decode cX7_putRequired 176 = .ok (.aload_n 0, 1) := by decide +kernel
theorem dX7_putRequired_177 : decode cX7_putRequired 177 = .ok (.getfield 47, 3) := by decide +kernel
theorem dX7_putRequired_180 : decode cX7_putRequired 180 = .ok (.iload_n 2, 1) := by decide +kernel
theorem dX7_putRequired_181 : decode cX7_putRequired 181 = .ok (.laload, 1) := by decide +kernel
theorem dX7_putRequired_182 : decode cX7_putRequired 182 = .ok (.aload_n 0, 1) := by decide +kernel
theorem dX7_putRequired_183 : decode cX7_putRequired 183 = .ok (.getfield 38, 3) := by decide +kernel
theorem dX7_putRequired_186 : decode cX7_putRequired 186 = .ok (.iload 4, 2) := by decide +kernel
theorem dX7_putRequired_188 : decode cX7_putRequired 188 = .ok (.iaload, 1) := by decide +kernel
theorem dX7_putRequired_189 : decode cX7_putRequired 189 = .ok (.i2l, 1) := by decide +kernel
theorem dX7_putRequired_190 : decode cX7_putRequired 190 = .ok (.lcmp, 1) := by decide +kernel
theorem dX7_putRequired_191 : decode cX7_putRequired 191 = .ok (.ifCond .gt 7, 3) := by decide +kernel
theorem dX7_putRequired_198 : decode cX7_putRequired 198 = .ok (.iconst 3, 1) := by decide +kernel
theorem dX7_putRequired_194 : decode cX7_putRequired 194 = .ok (.iconst 2, 1) := by decide +kernel
theorem dX7_putRequired_195 : decode cX7_putRequired 195 = .ok (.goto 4, 3) := by decide +kernel
theorem dX7_putRequired_172 : decode cX7_putRequired 172 = .ok (.iconst 1, 1) := by decide +kernel
theorem dX7_putRequired_173 : decode cX7_putRequired 173 = .ok (.goto 26, 3) := by decide +kernel
theorem dX7_putRequired_163 : decode cX7_putRequired 163 = .ok (.iconst 0, 1) := by decide +kernel
theorem dX7_putRequired_164 : decode cX7_putRequired 164 = .ok (.goto 35, 3) := by decide +kernel
theorem dX7_putRequired_199 : decode cX7_putRequired 199 = .ok (.iastore, 1) := by decide +kernel
theorem dX7_putRequired_200 : decode cX7_putRequired 200 = .ok (.iload_n 2, 1) := by decide +kernel
theorem dX7_putRequired_201 : decode cX7_putRequired 201 = .ok (.iconst 1, 1) := by decide +kernel
theorem dX7_putRequired_202 : decode cX7_putRequired 202 = .ok (.iload 4, 2) := by decide +kernel
theorem dX7_putRequired_204 : decode cX7_putRequired 204 = .ok (.ishl, 1) := by decide +kernel
theorem dX7_putRequired_205 : decode cX7_putRequired 205 = .ok (.ior, 1) := by decide +kernel
theorem dX7_putRequired_206 : decode cX7_putRequired 206 = .ok (.istore_n 2, 1) := by decide +kernel
theorem dX7_putRequired_207 : decode cX7_putRequired 207 = .ok (.aload_n 0, 1) := by decide +kernel
theorem dX7_putRequired_208 : decode cX7_putRequired 208 = .ok (.getfield 63, 3) := by decide +kernel
theorem dX7_putRequired_211 : decode cX7_putRequired 211 = .ok (.aload_n 0, 1) := by decide +kernel
theorem dX7_putRequired_212 : decode cX7_putRequired 212 = .ok (.getfield 149, 3) := by decide +kernel
theorem dX7_putRequired_215 : decode cX7_putRequired 215 = .ok (.aload_n 0, 1) := by decide +kernel
theorem dX7_putRequired_216 : decode cX7_putRequired 216 = .ok (.getfield 47, 3) := by decide +kernel
theorem dX7_putRequired_219 : decode cX7_putRequired 219 = .ok (.iload_n 2, 1) := by decide +kernel
theorem dX7_putRequired_220 : decode cX7_putRequired 220 = .ok (.laload, 1) := by decide +kernel
theorem dX7_putRequired_221 : decode cX7_putRequired 221 = .ok (.lastore, 1) := by decide +kernel
theorem dX7_putRequired_222 : decode cX7_putRequired 222 = .ok (.aload_n 0, 1) := by decide +kernel
theorem dX7_putRequired_223 : decode cX7_putRequired 223 = .ok (.dup, 1) := by decide +kernel
theorem dX7_putRequired_224 : decode cX7_putRequired 224 = .ok (.getfield 149, 3) := by decide +kernel
theorem dX7_putRequired_227 : decode cX7_putRequired 227 = .ok (.iconst 1, 1) := by decide +kernel
theorem dX7_putRequired_228 : decode cX7_putRequired 228 = .ok (.iadd, 1) := by decide +kernel
theorem dX7_putRequired_229 : decode cX7_putRequired 229 = .ok (.putfield 149, 3) := by decide +kernel
theorem dX7_putRequired_232 : decode cX7_putRequired 232 = .ok (.goto (-230), 3) := by decide +kernel
theorem dX7_putRequired_235 : decode cX7_putRequired 235 = .ok (.return_, 1) := by decide +kernel
theorem dX7_putOptional_0 : decode cX7_putOptional 0 = .ok (.aload_n 0, 1) := by decide +kernel
theorem dX7_putOptional_1 : decode cX7_putOptional 1 = .ok (.invokevirtual 152, 3) := by decide +kernel
theorem dX7_putOptional_4 : decode cX7_putOptional 4 = .ok (.istore_n 1, 1) := by decide +kernel
theorem dX7_putOptional_5 : decode cX7_putOptional 5 = .ok (.iconst 0, 1) := by decide +kernel
theorem dX7_putOptional_6 : decode cX7_putOptional 6 = .ok (.istore_n 2, 1) := by decide +kernel
theorem dX7_putOptional_7 : decode cX7_putOptional 7 = .ok (.iload_n 2, 1) := by decide +kernel
theorem dX7_putOptional_8 : decode cX7_putOptional 8 = .ok (.iconst (-1), 1) := by decide +kernel
theorem dX7_putOptional_9 : decode cX7_putOptional 9 = .ok (.if_icmp .eq 112, 3) := by decide +kernel
theorem dX7_putOptional_12 : decode cX7_putOptional 12 = .ok (.iconst (-1), 1) := by decide +kernel
theorem dX7_putOptional_13 : decode cX7_putOptional 13 = .ok (.istore_n 2, 1) := by decide +kernel
theorem dX7_putOptional_14 : decode cX7_putOptional 14 = .ok (.aload_n 0, 1) := by decide +kernel
theorem dX7_putOptional_15 : decode cX7_putOptional 15 = .ok (.getfield 87, 3) := by decide +kernel
theorem dX7_putOptional_18 : decode cX7_putOptional 18 = .ok (.iconst 1, 1) := by decide +kernel
theorem dX7_putOptional_19 : decode cX7_putOptional 19 = .ok (.isub, 1) := by decide +kernel
theorem dX7_putOptional_20 : decode cX7_putOptional 20 = .ok (.istore_n 3, 1) := by decide +kernel
theorem dX7_putOptional_21 : decode cX7_putOptional 21 = .ok (.iload_n 3, 1) := by decide +kernel
theorem dX7_putOptional_22 : decode cX7_putOptional 22 = .ok (.ifCond .lt 37, 3) := by decide +kernel
theorem dX7_putOptional_25 : decode cX7_putOptional 25 = .ok (.iload_n 1, 1) := by decide +kernel
theorem dX7_putOptional_26 : decode cX7_putOptional 26 = .ok (.iload_n 3, 1) := by decide +kernel
theorem dX7_putOptional_27 : decode cX7_putOptional 27 = .ok (.ishr, 1) := by decide +kernel
theorem dX7_putOptional_28 : decode cX7_putOptional 28 = .ok (.iconst 1, 1) := by decide +kernel
theorem dX7_putOptional_29 : decode cX7_putOptional 29 = .ok (.iand, 1) := by decide +kernel
theorem dX7_putOptional_30 : decode cX7_putOptional 30 = .ok (.ifCond .ne 21, 3) := by decide +kernel
theorem dX7_putOptional_51 : decode cX7_putOptional 51 = .ok (.iload_n 2, 1) := by decide +kernel
theorem dX7_putOptional_52 : decode cX7_putOptional 52 = .ok (.istore_n 2, 1) := by decide +kernel
theorem dX7_putOptional_53 : decode cX7_putOptional 53 = .ok (.iinc 3 (-1), 3) := by decide +kernel
theorem dX7_putOptional_56 : decode cX7_putOptional 56 = .ok (.goto (-35), 3) := by decide +kernel
theorem dX7_putOptional_33 : decode cX7_putOptional 33 = .ok (.iload_n 1, 1) := by decide +kernel
theorem dX7_putOptional_34 : decode cX7_putOptional 34 = .ok (.aload_n 0, 1) := by decide +kernel
theorem dX7_putOptional_35 : decode cX7_putOptional 35 = .ok (.getfield 19, 3) := by decide +kernel
theorem dX7_putOptional_38 : decode cX7_putOptional 38 = .ok (.iload_n 3, 1) := by decide +kernel
theorem dX7_putOptional_39 : decode cX7_putOptional 39 = .ok (.iaload, 1) := by decide +kernel
theorem dX7_putOptional_40 : decode cX7_putOptional 40 = .ok (.ishr, 1) := by decide +kernel
theorem dX7_putOptional_41 : decode cX7_putOptional 41 = .ok (.iconst 1, 1) := by decide +kernel
theorem dX7_putOptional_42 : decode cX7_putOptional 42 = .ok (.iand, 1) := by decide +kernel
theorem dX7_putOptional_43 : decode cX7_putOptional 43 = .ok (.iconst 1, 1) := by decide +kernel
theorem dX7_putOptional_44 : decode cX7_putOptional 44 = .ok (.if_icmp .ne 7, 3) := by decide +kernel
theorem dX7_putOptional_47 : decode cX7_putOptional 47 = .ok (.iload_n 3, 1) := by decide +kernel
theorem dX7_putOptional_48 : decode cX7_putOptional 48 = .ok (.goto 4, 3) := by decide +kernel
theorem dX7_putOptional_59 : decode cX7_putOptional 59 = .ok (.iload_n 2, 1) := by decide +kernel
theorem dX7_putOptional_60 : decode cX7_putOptional 60 = .ok (.iconst (-1), 1) := by decide +kernel
theorem dX7_putOptional_61 : decode cX7_putOptional 61 = .ok (.if_icmp .eq (-54), 3) := by decide +kernel
theorem dX7_putOptional_64 : decode cX7_putOptional 64 = .ok (.aload_n 0, 1) := by decide +kernel
theorem dX7_putOptional_65 : decode cX7_putOptional 65 = .ok (.getfield 54, 3) := by decide +kernel
theorem dX7_putOptional_68 : decode cX7_putOptional 68 = .ok (.aload_n 0, 1) := by decide +kernel
theorem dX7_putOptional_69 : decode cX7_putOptional 69 = .ok (.getfield 149, 3) := by decide +kernel
theorem dX7_putOptional_72 : decode cX7_putOptional 72 = .ok (.iload_n 2, 1) := by decide +kernel
theorem dX7_putOptional_73 : decode cX7_putOptional 73 = .ok (.iastore, 1) := by decide +kernel
theorem dX7_putOptional_74 : decode cX7_putOptional 74 = .ok (.aload_n 0, 1) := by decide +kernel
theorem dX7_putOptional_75 : decode cX7_putOptional 75 = .ok (.getfield 57, 3) := by decide +kernel
theorem dX7_putOptional_78 : decode cX7_putOptional 78 = .ok (.aload_n 0, 1) := by decide +kernel
theorem dX7_putOptional_79 : decode cX7_putOptional 79 = .ok (.getfield 149, 3) := by decide +kernel
theorem dX7_putOptional_82 : decode cX7_putOptional 82 = .ok (.iconst 4, 1) := by decide +kernel
theorem dX7_putOptional_83 : decode cX7_putOptional 83 = .ok (.iastore, 1) := by decide +kernel
theorem dX7_putOptional_84 : decode cX7_putOptional 84 = .ok (.aload_n 0, 1) := by decide +kernel
theorem dX7_putOptional_85 : decode cX7_putOptional 85 = .ok (.getfield 63, 3) := by decide +kernel
theorem dX7_putOptional_88 : decode cX7_putOptional 88 = .ok (.aload_n 0, 1) := by decide +kernel
theorem dX7_putOptional_89 : decode cX7_putOptional 89 = .ok (.getfield 149, 3) := by decide +kernel
theorem dX7_putOptional_92 : decode cX7_putOptional 92 = .ok (.aload_n 0, 1) := by decide +kernel
theorem dX7_putOptional_93 : decode cX7_putOptional 93 = .ok (.getfield 47, 3) := by decide +kernel
theorem dX7_putOptional_96 : decode cX7_putOptional 96 = .ok (.aload_n 0, 1) := by decide +kernel
theorem dX7_putOptional_97 : decode cX7_putOptional 97 = .ok (.invokevirtual 152, 3) := by decide +kernel
theorem dX7_putOptional_100 : decode cX7_putOptional 100 = .ok (.laload, 1) := by decide +kernel
theorem dX7_putOptional_101 : decode cX7_putOptional 101 = .ok (.lastore, 1) := by decide +kernel
theorem dX7_putOptional_102 : decode cX7_putOptional 102 = .ok (.iload_n 1, 1) := by decide +kernel
theorem dX7_putOptional_103 : decode cX7_putOptional 103 = .ok (.iconst 1, 1) := by decide +kernel
theorem dX7_putOptional_104 : decode cX7_putOptional 104 = .ok (.iload_n 2, 1) := by decide +kernel
theorem dX7_putOptional_105 : decode cX7_putOptional 105 = .ok (.ishl, 1) := by decide +kernel
theorem dX7_putOptional_106 : decode cX7_putOptional 106 = .ok (.ior, 1) := by decide +kernel
theorem dX7_putOptional_107 : decode cX7_putOptional 107 = .ok (.istore_n 1, 1) := by decide +kernel
theorem dX7_putOptional_108 : decode cX7_putOptional 108 = .ok (.aload_n 0, 1) := by decide +kernel
theorem dX7_putOptional_109 : decode cX7_putOptional 109 = .ok (.dup, 1) := by decide +kernel
theorem dX7_putOptional_110 : decode cX7_putOptional 110 = .ok (.getfield 149, 3) := by decide +kernel
theorem dX7_putOptional_113 : decode cX7_putOptional 113 = .ok (.iconst 1, 1) := by decide +kernel
theorem dX7_putOptional_114 : decode cX7_putOptional 114 = .ok (.iadd, 1) := by decide +kernel
theorem dX7_putOptional_115 : decode cX7_putOptional 115 = .ok (.putfield 149, 3) := by decide +kernel
theorem dX7_putOptional_118 : decode cX7_putOptional 118 = .ok (.goto (-111), 3) := by decide +kernel
theorem dX7_putOptional_121 : decode cX7_putOptional 121 = .ok (.return_, 1) := by decide +kernel
theorem dX7_putFilters_0 : decode cX7_putFilters 0 = .ok (.aload_n 0, 1) := by decide +kernel
theorem dX7_putFilters_1 : decode cX7_putFilters 1 = .ok (.aload_n 0, 1) := by decide +kernel
theorem dX7_putFilters_2 : decode cX7_putFilters 2 = .ok (.getfield 117, 3) := by decide +kernel
theorem dX7_putFilters_5 : decode cX7_putFilters 5 = .ok (.putfield 156, 3) := by decide +kernel
theorem dX7_putFilters_8 : decode cX7_putFilters 8 = .ok (.iconst 0, 1) := by decide +kernel
theorem dX7_putFilters_9 : decode cX7_putFilters 9 = .ok (.istore_n 1, 1) := by decide +kernel
theorem dX7_putFilters_10 : decode cX7_putFilters 10 = .ok (.iload_n 1, 1) := by decide +kernel
theorem dX7_putFilters_11 : decode cX7_putFilters 11 = .ok (.bipush 8, 2) := by decide +kernel
theorem dX7_putFilters_13 : decode cX7_putFilters 13 = .ok (.if_icmp .ge 16, 3) := by decide +kernel
theorem dX7_putFilters_16 : decode cX7_putFilters 16 = .ok (.aload_n 0, 1) := by decide +kernel
theorem dX7_putFilters_17 : decode cX7_putFilters 17 = .ok (.getfield 60, 3) := by decide +kernel
theorem dX7_putFilters_20 : decode cX7_putFilters 20 = .ok (.iload_n 1, 1) := by decide +kernel
theorem dX7_putFilters_21 : decode cX7_putFilters 21 = .ok (.iconst 0, 1) := by decide +kernel
theorem dX7_putFilters_22 : decode cX7_putFilters 22 = .ok (.iastore, 1) := by decide +kernel
theorem dX7_putFilters_23 : decode cX7_putFilters 23 = .ok (.iinc 1 1, 3) := by decide +kernel
theorem dX7_putFilters_26 : decode cX7_putFilters 26 = .ok (.goto (-16), 3) := by decide +kernel
theorem dX7_putFilters_29 : decode cX7_putFilters 29 = .ok (.iconst 0, 1) := by decide +kernel
theorem dX7_putFilters_30 : decode cX7_putFilters 30 = .ok (.istore_n 1, 1) := by decide +kernel
theorem dX7_putFilters_31 : decode cX7_putFilters 31 = .ok (.iload_n 1, 1) := by decide +kernel
theorem dX7_putFilters_32 : decode cX7_putFilters 32 = .ok (.aload_n 0, 1) := by decide +kernel
theorem dX7_putFilters_33 : decode cX7_putFilters 33 = .ok (.getfield 117, 3) := by decide +kernel
theorem dX7_putFilters_36 : decode cX7_putFilters 36 = .ok (.if_icmp .ge 116, 3) := by decide +kernel
theorem dX7_putFilters_39 : decode cX7_putFilters 39 = .ok (.aload_n 0, 1) := by decide +kernel
theorem dX7_putFilters_40 : decode cX7_putFilters 40 = .ok (.getfield 149, 3) := by decide +kernel
theorem dX7_putFilters_43 : decode cX7_putFilters 43 = .ok (.iconst 1, 1) := by decide +kernel
theorem dX7_putFilters_44 : decode cX7_putFilters 44 = .ok (.isub, 1) := by decide +kernel
theorem dX7_putFilters_45 : decode cX7_putFilters 45 = .ok (.istore_n 2, 1) := by decide +kernel
theorem dX7_putFilters_46 : decode cX7_putFilters 46 = .ok (.aload_n 0, 1) := by decide +kernel
theorem dX7_putFilters_47 : decode cX7_putFilters 47 = .ok (.getfield 149, 3) := by decide +kernel
theorem dX7_putFilters_50 : decode cX7_putFilters 50 = .ok (.iconst 1, 1) := by decide +kernel
theorem dX7_putFilters_51 : decode cX7_putFilters 51 = .ok (.isub, 1) := by decide +kernel
theorem dX7_putFilters_52 : decode cX7_putFilters 52 = .ok (.istore_n 3, 1) := by decide +kernel
theorem dX7_putFilters_53 : decode cX7_putFilters 53 = .ok (.iload_n 3, 1) := by decide +kernel
theorem dX7_putFilters_54 : decode cX7_putFilters 54 = .ok (.ifCond .lt 56, 3) := by decide +kernel
theorem dX7_putFilters_57 : decode cX7_putFilters 57 = .ok (.aload_n 0, 1) := by decide +kernel
theorem dX7_putFilters_58 : decode cX7_putFilters 58 = .ok (.getfield 35, 3) := by decide +kernel
theorem dX7_putFilters_61 : decode cX7_putFilters 61 = .ok (.iload_n 1, 1) := by decide +kernel
theorem dX7_putFilters_62 : decode cX7_putFilters 62 = .ok (.baload, 1) := by decide +kernel
theorem dX7_putFilters_63 : decode cX7_putFilters 63 = .ok (.ifCond .eq 47, 3) := by decide +kernel
theorem dX7_putFilters_66 : decode cX7_putFilters 66 = .ok (.aload_n 0, 1) := by decide +kernel
theorem dX7_putFilters_67 : decode cX7_putFilters 67 = .ok (.aload_n 0, 1) := by decide +kernel
theorem dX7_putFilters_68 : decode cX7_putFilters 68 = .ok (.getfield 54, 3) := by decide +kernel
theorem dX7_putFilters_71 : decode cX7_putFilters 71 = .ok (.iload_n 3, 1) := by decide +kernel
theorem dX7_putFilters_72 : decode cX7_putFilters 72 = .ok (.iaload, 1) := by decide +kernel
theorem dX7_putFilters_73 : decode cX7_putFilters 73 = .ok (.invokevirtual 107, 3) := by decide +kernel
theorem dX7_putFilters_76 : decode cX7_putFilters 76 = .ok (.ifCond .eq 26, 3) := by decide +kernel
theorem dX7_putFilters_102 : decode cX7_putFilters 102 = .ok (.iload_n 2, 1) := by decide +kernel
theorem dX7_putFilters_103 : decode cX7_putFilters 103 = .ok (.istore_n 2, 1) := by decide +kernel
theorem dX7_putFilters_104 : decode cX7_putFilters 104 = .ok (.iinc 3 (-1), 3) := by decide +kernel
theorem dX7_putFilters_107 : decode cX7_putFilters 107 = .ok (.goto (-54), 3) := by decide +kernel
theorem dX7_putFilters_79 : decode cX7_putFilters 79 = .ok (.aload_n 0, 1) := by decide +kernel
theorem dX7_putFilters_80 : decode cX7_putFilters 80 = .ok (.aload_n 0, 1) := by decide +kernel
theorem dX7_putFilters_81 : decode cX7_putFilters 81 = .ok (.getfield 54, 3) := by decide +kernel
theorem dX7_putFilters_84 : decode cX7_putFilters 84 = .ok (.iload_n 3, 1) := by decide +kernel
theorem dX7_putFilters_85 : decode cX7_putFilters 85 = .ok (.iaload, 1) := by decide +kernel
theorem dX7_putFilters_86 : decode cX7_putFilters 86 = .ok (.aload_n 0, 1) := by decide +kernel
theorem dX7_putFilters_87 : decode cX7_putFilters 87 = .ok (.getfield 26, 3) := by decide +kernel
theorem dX7_putFilters_90 : decode cX7_putFilters 90 = .ok (.iload_n 1, 1) := by decide +kernel
theorem dX7_putFilters_91 : decode cX7_putFilters 91 = .ok (.iaload, 1) := by decide +kernel
theorem dX7_putFilters_92 : decode cX7_putFilters 92 = .ok (.invokevirtual 127, 3) := by decide +kernel
theorem dX7_putFilters_95 : decode cX7_putFilters 95 = .ok (.ifCond .lt 7, 3) := by decide +kernel
theorem dX7_putFilters_98 : decode cX7_putFilters 98 = .ok (.iload_n 3, 1) := by decide +kernel
theorem dX7_putFilters_99 : decode cX7_putFilters 99 = .ok (.goto 4, 3) := by decide +kernel
theorem dX7_putFilters_110 : decode cX7_putFilters 110 = .ok (.aload_n 0, 1) := by decide +kernel
theorem dX7_putFilters_111 : decode cX7_putFilters 111 = .ok (.getfield 66, 3) := by decide +kernel
theorem dX7_putFilters_114 : decode cX7_putFilters 114 = .ok (.iload_n 1, 1) := by decide +kernel
theorem dX7_putFilters_115 : decode cX7_putFilters 115 = .ok (.aload_n 0, 1) := by decide +kernel
theorem dX7_putFilters_116 : decode cX7_putFilters 116 = .ok (.getfield 149, 3) := by decide +kernel
theorem dX7_putFilters_119 : decode cX7_putFilters 119 = .ok (.ifCond .ne 8, 3) := by decide +kernel
theorem dX7_putFilters_127 : decode cX7_putFilters 127 = .ok (.iload_n 2, 1) := by decide +kernel
theorem dX7_putFilters_122 : decode cX7_putFilters 122 = .ok (.bipush (-3), 2) := by decide +kernel
theorem dX7_putFilters_124 : decode cX7_putFilters 124 = .ok (.goto 4, 3) := by decide +kernel
theorem dX7_putFilters_128 : decode cX7_putFilters 128 = .ok (.iastore, 1) := by decide +kernel
theorem dX7_putFilters_129 : decode cX7_putFilters 129 = .ok (.aload_n 0, 1) := by decide +kernel
theorem dX7_putFilters_130 : decode cX7_putFilters 130 = .ok (.getfield 149, 3) := by decide +kernel
theorem dX7_putFilters_133 : decode cX7_putFilters 133 = .ok (.ifCond .le 13, 3) := by decide +kernel
theorem dX7_putFilters_146 : decode cX7_putFilters 146 = .ok (.iinc 1 1, 3) := by decide +kernel
theorem dX7_putFilters_149 : decode cX7_putFilters 149 = .ok (.goto (-118), 3) := by decide +kernel
theorem dX7_putFilters_136 : decode cX7_putFilters 136 = .ok (.aload_n 0, 1) := by decide +kernel
theorem dX7_putFilters_137 : decode cX7_putFilters 137 = .ok (.getfield 60, 3) := by decide +kernel
theorem dX7_putFilters_140 : decode cX7_putFilters 140 = .ok (.iload_n 2, 1) := by decide +kernel
theorem dX7_putFilters_141 : decode cX7_putFilters 141 = .ok (.dup2, 1) := by decide +kernel
theorem dX7_putFilters_142 : decode cX7_putFilters 142 = .ok (.iaload, 1) := by decide +kernel
theorem dX7_putFilters_143 : decode cX7_putFilters 143 = .ok (.iconst 1, 1) := by decide +kernel
theorem dX7_putFilters_144 : decode cX7_putFilters 144 = .ok (.iadd, 1) := by decide +kernel
theorem dX7_putFilters_145 : decode cX7_putFilters 145 = .ok (.iastore, 1) := by decide +kernel
theorem dX7_putFilters_152 : decode cX7_putFilters 152 = .ok (.return_, 1) := by decide +kernel
theorem dX7_plan_0 : decode cX7_plan 0 = .ok (.iconst 0, 1) := by decide +kernel
theorem dX7_plan_1 : decode cX7_plan 1 = .ok (.istore_n 1, 1) := by decide +kernel
theorem dX7_plan_2 : decode cX7_plan 2 = .ok (.iload_n 1, 1) := by decide +kernel
theorem dX7_plan_3 : decode cX7_plan 3 = .ok (.aload_n 0, 1) := by decide +kernel
theorem dX7_plan_4 : decode cX7_plan 4 = .ok (.getfield 87, 3) := by decide +kernel
theorem dX7_plan_7 : decode cX7_plan 7 = .ok (.if_icmp .ge 14, 3) := by decide +kernel
theorem dX7_plan_10 : decode cX7_plan 10 = .ok (.aload_n 0, 1) := by decide +kernel
theorem dX7_plan_11 : decode cX7_plan 11 = .ok (.iload_n 1, 1) := by decide +kernel
theorem dX7_plan_12 : decode cX7_plan 12 = .ok (.invokevirtual 159, 3) := by decide +kernel
theorem dX7_plan_15 : decode cX7_plan 15 = .ok (.iinc 1 1, 3) := by decide +kernel
theorem dX7_plan_18 : decode cX7_plan 18 = .ok (.goto (-16), 3) := by decide +kernel
theorem dX7_plan_21 : decode cX7_plan 21 = .ok (.aload_n 0, 1) := by decide +kernel
theorem dX7_plan_22 : decode cX7_plan 22 = .ok (.iconst 0, 1) := by decide +kernel
theorem dX7_plan_23 : decode cX7_plan 23 = .ok (.putfield 149, 3) := by decide +kernel
theorem dX7_plan_26 : decode cX7_plan 26 = .ok (.aload_n 0, 1) := by decide +kernel
theorem dX7_plan_27 : decode cX7_plan 27 = .ok (.aload_n 0, 1) := by decide +kernel
theorem dX7_plan_28 : decode cX7_plan 28 = .ok (.invokevirtual 152, 3) := by decide +kernel
theorem dX7_plan_31 : decode cX7_plan 31 = .ok (.invokevirtual 163, 3) := by decide +kernel
theorem dX7_plan_34 : decode cX7_plan 34 = .ok (.aload_n 0, 1) := by decide +kernel
theorem dX7_plan_35 : decode cX7_plan 35 = .ok (.aload_n 0, 1) := by decide +kernel
theorem dX7_plan_36 : decode cX7_plan 36 = .ok (.invokevirtual 152, 3) := by decide +kernel
theorem dX7_plan_39 : decode cX7_plan 39 = .ok (.invokevirtual 166, 3) := by decide +kernel
theorem dX7_plan_42 : decode cX7_plan 42 = .ok (.aload_n 0, 1) := by decide +kernel
theorem dX7_plan_43 : decode cX7_plan 43 = .ok (.invokevirtual 169, 3) := by decide +kernel
theorem dX7_plan_46 : decode cX7_plan 46 = .ok (.aload_n 0, 1) := by decide +kernel
theorem dX7_plan_47 : decode cX7_plan 47 = .ok (.invokevirtual 172, 3) := by decide +kernel
theorem dX7_plan_50 : decode cX7_plan 50 = .ok (.aload_n 0, 1) := by decide +kernel
theorem dX7_plan_51 : decode cX7_plan 51 = .ok (.getfield 149, 3) := by decide +kernel
theorem dX7_plan_54 : decode cX7_plan 54 = .ok (.ireturn, 1) := by decide +kernel
theorem dX7_step_0 : decode cX7_step 0 = .ok (.iload_n 1, 1) := by decide +kernel
theorem dX7_step_1 : decode cX7_step 1 = .ok (.ifCond .lt 11, 3) := by decide +kernel
theorem dX7_step_12 : decode cX7_step 12 = .ok (.iconst (-1), 1) := by decide +kernel
theorem dX7_step_13 : decode cX7_step 13 = .ok (.ireturn, 1) := by decide +kernel
theorem dX7_step_4 : decode cX7_step 4 = .ok (.iload_n 1, 1) := by decide +kernel
theorem dX7_step_5 : decode cX7_step 5 = .ok (.aload_n 0, 1) := by decide +kernel
theorem dX7_step_6 : decode cX7_step 6 = .ok (.getfield 149, 3) := by decide +kernel
theorem dX7_step_9 : decode cX7_step 9 = .ok (.if_icmp .lt 5, 3) := by decide +kernel
theorem dX7_step_14 : decode cX7_step 14 = .ok (.iload_n 2, 1) := by decide +kernel
theorem dX7_step_15 : decode cX7_step 15 = .ok (.ifCond .ne 12, 3) := by decide +kernel
theorem dX7_step_27 : decode cX7_step 27 = .ok (.iload_n 2, 1) := by decide +kernel
theorem dX7_step_28 : decode cX7_step 28 = .ok (.iconst 1, 1) := by decide +kernel
theorem dX7_step_29 : decode cX7_step 29 = .ok (.if_icmp .ne 12, 3) := by decide +kernel
theorem dX7_step_41 : decode cX7_step 41 = .ok (.iload_n 2, 1) := by decide +kernel
theorem dX7_step_42 : decode cX7_step 42 = .ok (.iconst 2, 1) := by decide +kernel
theorem dX7_step_43 : decode cX7_step 43 = .ok (.if_icmp .ne 12, 3) := by decide +kernel
theorem dX7_step_55 : decode cX7_step 55 = .ok (.bipush (-2), 2) := by decide +kernel
theorem dX7_step_57 : decode cX7_step 57 = .ok (.ireturn, 1) := by decide +kernel
theorem dX7_step_46 : decode cX7_step 46 = .ok (.aload_n 0, 1) := by decide +kernel
theorem dX7_step_47 : decode cX7_step 47 = .ok (.getfield 60, 3) := by decide +kernel
theorem dX7_step_50 : decode cX7_step 50 = .ok (.iload_n 1, 1) := by decide +kernel
theorem dX7_step_51 : decode cX7_step 51 = .ok (.iaload, 1) := by decide +kernel
theorem dX7_step_52 : decode cX7_step 52 = .ok (.goto 5, 3) := by decide +kernel
theorem dX7_step_32 : decode cX7_step 32 = .ok (.aload_n 0, 1) := by decide +kernel
theorem dX7_step_33 : decode cX7_step 33 = .ok (.getfield 57, 3) := by decide +kernel
theorem dX7_step_36 : decode cX7_step 36 = .ok (.iload_n 1, 1) := by decide +kernel
theorem dX7_step_37 : decode cX7_step 37 = .ok (.iaload, 1) := by decide +kernel
theorem dX7_step_38 : decode cX7_step 38 = .ok (.goto 19, 3) := by decide +kernel
theorem dX7_step_18 : decode cX7_step 18 = .ok (.aload_n 0, 1) := by decide +kernel
theorem dX7_step_19 : decode cX7_step 19 = .ok (.getfield 54, 3) := by decide +kernel
theorem dX7_step_22 : decode cX7_step 22 = .ok (.iload_n 1, 1) := by decide +kernel
theorem dX7_step_23 : decode cX7_step 23 = .ok (.iaload, 1) := by decide +kernel
theorem dX7_step_24 : decode cX7_step 24 = .ok (.goto 33, 3) := by decide +kernel
theorem dX7_estimate_0 : decode cX7_estimate 0 = .ok (.iload_n 1, 1) := by decide +kernel
theorem dX7_estimate_1 : decode cX7_estimate 1 = .ok (.ifCond .lt 11, 3) := by decide +kernel
theorem dX7_estimate_12 : decode cX7_estimate 12 = .ok (.ldc2_w 144, 3) := by decide +kernel
theorem dX7_estimate_15 : decode cX7_estimate 15 = .ok (.goto 9, 3) := by decide +kernel
theorem dX7_estimate_24 : decode cX7_estimate 24 = .ok (.lreturn, 1) := by decide +kernel
theorem dX7_estimate_4 : decode cX7_estimate 4 = .ok (.iload_n 1, 1) := by decide +kernel
theorem dX7_estimate_5 : decode cX7_estimate 5 = .ok (.aload_n 0, 1) := by decide +kernel
theorem dX7_estimate_6 : decode cX7_estimate 6 = .ok (.getfield 149, 3) := by decide +kernel
theorem dX7_estimate_9 : decode cX7_estimate 9 = .ok (.if_icmp .lt 9, 3) := by decide +kernel
theorem dX7_estimate_18 : decode cX7_estimate 18 = .ok (.aload_n 0, 1) := by decide +kernel
theorem dX7_estimate_19 : decode cX7_estimate 19 = .ok (.getfield 63, 3) := by decide +kernel
theorem dX7_estimate_22 : decode cX7_estimate 22 = .ok (.iload_n 1, 1) := by decide +kernel
theorem dX7_estimate_23 : decode cX7_estimate 23 = .ok (.laload, 1) := by decide +kernel
theorem dX7_move_0 : decode cX7_move 0 = .ok (.iload_n 1, 1) := by decide +kernel
theorem dX7_move_1 : decode cX7_move 1 = .ok (.ifCond .lt 11, 3) := by decide +kernel
theorem dX7_move_12 : decode cX7_move 12 = .ok (.iconst (-1), 1) := by decide +kernel
theorem dX7_move_13 : decode cX7_move 13 = .ok (.goto 9, 3) := by decide +kernel
theorem dX7_move_22 : decode cX7_move 22 = .ok (.ireturn, 1) := by decide +kernel
theorem dX7_move_4 : decode cX7_move 4 = .ok (.iload_n 1, 1) := by decide +kernel
theorem dX7_move_5 : decode cX7_move 5 = .ok (.aload_n 0, 1) := by decide +kernel
theorem dX7_move_6 : decode cX7_move 6 = .ok (.getfield 156, 3) := by decide +kernel
theorem dX7_move_9 : decode cX7_move 9 = .ok (.if_icmp .lt 7, 3) := by decide +kernel
theorem dX7_move_16 : decode cX7_move 16 = .ok (.aload_n 0, 1) := by decide +kernel
theorem dX7_move_17 : decode cX7_move 17 = .ok (.getfield 66, 3) := by decide +kernel
theorem dX7_move_20 : decode cX7_move 20 = .ok (.iload_n 1, 1) := by decide +kernel
theorem dX7_move_21 : decode cX7_move 21 = .ok (.iaload, 1) := by decide +kernel
theorem dX7_start_0 : decode cX7_start 0 = .ok (.aload_n 0, 1) := by decide +kernel
theorem dX7_start_1 : decode cX7_start 1 = .ok (.iconst 1, 1) := by decide +kernel
theorem dX7_start_2 : decode cX7_start 2 = .ok (.putfield 181, 3) := by decide +kernel
theorem dX7_start_5 : decode cX7_start 5 = .ok (.aload_n 0, 1) := by decide +kernel
theorem dX7_start_6 : decode cX7_start 6 = .ok (.getfield 72, 3) := by decide +kernel
theorem dX7_start_9 : decode cX7_start 9 = .ok (.iconst 0, 1) := by decide +kernel
theorem dX7_start_10 : decode cX7_start 10 = .ok (.iconst 0, 1) := by decide +kernel
theorem dX7_start_11 : decode cX7_start 11 = .ok (.iastore, 1) := by decide +kernel
theorem dX7_start_12 : decode cX7_start 12 = .ok (.iconst 0, 1) := by decide +kernel
theorem dX7_start_13 : decode cX7_start 13 = .ok (.istore_n 1, 1) := by decide +kernel
theorem dX7_start_14 : decode cX7_start 14 = .ok (.iload_n 1, 1) := by decide +kernel
theorem dX7_start_15 : decode cX7_start 15 = .ok (.bipush 8, 2) := by decide +kernel
theorem dX7_start_17 : decode cX7_start 17 = .ok (.if_icmp .ge 16, 3) := by decide +kernel
theorem dX7_start_20 : decode cX7_start 20 = .ok (.aload_n 0, 1) := by decide +kernel
theorem dX7_start_21 : decode cX7_start 21 = .ok (.getfield 69, 3) := by decide +kernel
theorem dX7_start_24 : decode cX7_start 24 = .ok (.iload_n 1, 1) := by decide +kernel
theorem dX7_start_25 : decode cX7_start 25 = .ok (.iconst (-1), 1) := by decide +kernel
theorem dX7_start_26 : decode cX7_start 26 = .ok (.iastore, 1) := by decide +kernel
theorem dX7_start_27 : decode cX7_start 27 = .ok (.iinc 1 1, 3) := by decide +kernel
theorem dX7_start_30 : decode cX7_start 30 = .ok (.goto (-16), 3) := by decide +kernel
theorem dX7_start_33 : decode cX7_start 33 = .ok (.return_, 1) := by decide +kernel
theorem dX7_comesBy_0 : decode cX7_comesBy 0 = .ok (.bipush 8, 2) := by decide +kernel
theorem dX7_comesBy_2 : decode cX7_comesBy 2 = .ok (.aload_n 0, 1) := by decide +kernel
theorem dX7_comesBy_3 : decode cX7_comesBy 3 = .ok (.getfield 175, 3) := by decide +kernel
theorem dX7_comesBy_6 : decode cX7_comesBy 6 = .ok (.sipush 500, 3) := by decide +kernel
theorem dX7_comesBy_9 : decode cX7_comesBy 9 = .ok (.if_icmp .ge 10, 3) := by decide +kernel
theorem dX7_comesBy_19 : decode cX7_comesBy 19 = .ok (.sipush 500, 3) := by decide +kernel
theorem dX7_comesBy_12 : decode cX7_comesBy 12 = .ok (.aload_n 0, 1) := by decide +kernel
theorem dX7_comesBy_13 : decode cX7_comesBy 13 = .ok (.getfield 175, 3) := by decide +kernel
theorem dX7_comesBy_16 : decode cX7_comesBy 16 = .ok (.goto 6, 3) := by decide +kernel
theorem dX7_comesBy_22 : decode cX7_comesBy 22 = .ok (.imul, 1) := by decide +kernel
theorem dX7_comesBy_23 : decode cX7_comesBy 23 = .ok (.istore 4, 2) := by decide +kernel
theorem dX7_comesBy_25 : decode cX7_comesBy 25 = .ok (.iconst 0, 1) := by decide +kernel
theorem dX7_comesBy_26 : decode cX7_comesBy 26 = .ok (.istore 5, 2) := by decide +kernel
theorem dX7_comesBy_28 : decode cX7_comesBy 28 = .ok (.iload 5, 2) := by decide +kernel
theorem dX7_comesBy_30 : decode cX7_comesBy 30 = .ok (.bipush 8, 2) := by decide +kernel
theorem dX7_comesBy_32 : decode cX7_comesBy 32 = .ok (.if_icmp .ge 31, 3) := by decide +kernel
theorem dX7_comesBy_35 : decode cX7_comesBy 35 = .ok (.aload_n 0, 1) := by decide +kernel
theorem dX7_comesBy_36 : decode cX7_comesBy 36 = .ok (.getfield 75, 3) := by decide +kernel
theorem dX7_comesBy_39 : decode cX7_comesBy 39 = .ok (.iload 4, 2) := by decide +kernel
theorem dX7_comesBy_41 : decode cX7_comesBy 41 = .ok (.iload 5, 2) := by decide +kernel
theorem dX7_comesBy_43 : decode cX7_comesBy 43 = .ok (.iadd, 1) := by decide +kernel
theorem dX7_comesBy_44 : decode cX7_comesBy 44 = .ok (.aload_n 0, 1) := by decide +kernel
theorem dX7_comesBy_45 : decode cX7_comesBy 45 = .ok (.getfield 69, 3) := by decide +kernel
theorem dX7_comesBy_48 : decode cX7_comesBy 48 = .ok (.bipush 8, 2) := by decide +kernel
theorem dX7_comesBy_50 : decode cX7_comesBy 50 = .ok (.iload_n 1, 1) := by decide +kernel
theorem dX7_comesBy_51 : decode cX7_comesBy 51 = .ok (.imul, 1) := by decide +kernel
theorem dX7_comesBy_52 : decode cX7_comesBy 52 = .ok (.iload 5, 2) := by decide +kernel
theorem dX7_comesBy_54 : decode cX7_comesBy 54 = .ok (.iadd, 1) := by decide +kernel
theorem dX7_comesBy_55 : decode cX7_comesBy 55 = .ok (.iaload, 1) := by decide +kernel
theorem dX7_comesBy_56 : decode cX7_comesBy 56 = .ok (.iastore, 1) := by decide +kernel
theorem dX7_comesBy_57 : decode cX7_comesBy 57 = .ok (.iinc 5 1, 3) := by decide +kernel
theorem dX7_comesBy_60 : decode cX7_comesBy 60 = .ok (.goto (-32), 3) := by decide +kernel
theorem dX7_comesBy_63 : decode cX7_comesBy 63 = .ok (.iconst 0, 1) := by decide +kernel
theorem dX7_comesBy_64 : decode cX7_comesBy 64 = .ok (.istore 5, 2) := by decide +kernel
theorem dX7_comesBy_66 : decode cX7_comesBy 66 = .ok (.iload 5, 2) := by decide +kernel
theorem dX7_comesBy_68 : decode cX7_comesBy 68 = .ok (.iconst 3, 1) := by decide +kernel
theorem dX7_comesBy_69 : decode cX7_comesBy 69 = .ok (.if_icmp .ge 104, 3) := by decide +kernel
theorem dX7_comesBy_72 : decode cX7_comesBy 72 = .ok (.aload_n 0, 1) := by decide +kernel
theorem dX7_comesBy_73 : decode cX7_comesBy 73 = .ok (.getfield 13, 3) := by decide +kernel
theorem dX7_comesBy_76 : decode cX7_comesBy 76 = .ok (.iconst 3, 1) := by decide +kernel
theorem dX7_comesBy_77 : decode cX7_comesBy 77 = .ok (.iload_n 2, 1) := by decide +kernel
theorem dX7_comesBy_78 : decode cX7_comesBy 78 = .ok (.imul, 1) := by decide +kernel
theorem dX7_comesBy_79 : decode cX7_comesBy 79 = .ok (.iload 5, 2) := by decide +kernel
theorem dX7_comesBy_81 : decode cX7_comesBy 81 = .ok (.iadd, 1) := by decide +kernel
theorem dX7_comesBy_82 : decode cX7_comesBy 82 = .ok (.iaload, 1) := by decide +kernel
theorem dX7_comesBy_83 : decode cX7_comesBy 83 = .ok (.istore 6, 2) := by decide +kernel
theorem dX7_comesBy_85 : decode cX7_comesBy 85 = .ok (.aload_n 0, 1) := by decide +kernel
theorem dX7_comesBy_86 : decode cX7_comesBy 86 = .ok (.getfield 7, 3) := by decide +kernel
theorem dX7_comesBy_89 : decode cX7_comesBy 89 = .ok (.iconst 3, 1) := by decide +kernel
theorem dX7_comesBy_90 : decode cX7_comesBy 90 = .ok (.iload_n 3, 1) := by decide +kernel
theorem dX7_comesBy_91 : decode cX7_comesBy 91 = .ok (.imul, 1) := by decide +kernel
theorem dX7_comesBy_92 : decode cX7_comesBy 92 = .ok (.iload 5, 2) := by decide +kernel
theorem dX7_comesBy_94 : decode cX7_comesBy 94 = .ok (.iadd, 1) := by decide +kernel
theorem dX7_comesBy_95 : decode cX7_comesBy 95 = .ok (.iaload, 1) := by decide +kernel
theorem dX7_comesBy_96 : decode cX7_comesBy 96 = .ok (.istore 7, 2) := by decide +kernel
theorem dX7_comesBy_98 : decode cX7_comesBy 98 = .ok (.iload 6, 2) := by decide +kernel
theorem dX7_comesBy_100 : decode cX7_comesBy 100 = .ok (.ifCond .lt 13, 3) := by decide +kernel
theorem dX7_comesBy_113 : decode cX7_comesBy 113 = .ok (.aload_n 0, 1) := by decide +kernel
theorem dX7_comesBy_114 : decode cX7_comesBy 114 = .ok (.getfield 75, 3) := by decide +kernel
theorem dX7_comesBy_117 : decode cX7_comesBy 117 = .ok (.iload 4, 2) := by decide +kernel
theorem dX7_comesBy_119 : decode cX7_comesBy 119 = .ok (.iconst 1, 1) := by decide +kernel
theorem dX7_comesBy_120 : decode cX7_comesBy 120 = .ok (.isub, 1) := by decide +kernel
theorem dX7_comesBy_121 : decode cX7_comesBy 121 = .ok (.iload 6, 2) := by decide +kernel
theorem dX7_comesBy_123 : decode cX7_comesBy 123 = .ok (.isub, 1) := by decide +kernel
theorem dX7_comesBy_124 : decode cX7_comesBy 124 = .ok (.iaload, 1) := by decide +kernel
theorem dX7_comesBy_125 : decode cX7_comesBy 125 = .ok (.iconst (-1), 1) := by decide +kernel
theorem dX7_comesBy_126 : decode cX7_comesBy 126 = .ok (.if_icmp .eq 22, 3) := by decide +kernel
theorem dX7_comesBy_129 : decode cX7_comesBy 129 = .ok (.aload_n 0, 1) := by decide +kernel
theorem dX7_comesBy_130 : decode cX7_comesBy 130 = .ok (.getfield 75, 3) := by decide +kernel
theorem dX7_comesBy_133 : decode cX7_comesBy 133 = .ok (.iload 4, 2) := by decide +kernel
theorem dX7_comesBy_135 : decode cX7_comesBy 135 = .ok (.iconst 1, 1) := by decide +kernel
theorem dX7_comesBy_136 : decode cX7_comesBy 136 = .ok (.isub, 1) := by decide +kernel
theorem dX7_comesBy_137 : decode cX7_comesBy 137 = .ok (.iload 6, 2) := by decide +kernel
theorem dX7_comesBy_139 : decode cX7_comesBy 139 = .ok (.isub, 1) := by decide +kernel
theorem dX7_comesBy_140 : decode cX7_comesBy 140 = .ok (.iaload, 1) := by decide +kernel
theorem dX7_comesBy_141 : decode cX7_comesBy 141 = .ok (.iload 7, 2) := by decide +kernel
theorem dX7_comesBy_143 : decode cX7_comesBy 143 = .ok (.if_icmp .eq 5, 3) := by decide +kernel
theorem dX7_comesBy_146 : decode cX7_comesBy 146 = .ok (.iconst 0, 1) := by decide +kernel
theorem dX7_comesBy_147 : decode cX7_comesBy 147 = .ok (.ireturn, 1) := by decide +kernel
theorem dX7_comesBy_103 : decode cX7_comesBy 103 = .ok (.iload 6, 2) := by decide +kernel
theorem dX7_comesBy_105 : decode cX7_comesBy 105 = .ok (.iload 7, 2) := by decide +kernel
theorem dX7_comesBy_107 : decode cX7_comesBy 107 = .ok (.if_icmp .eq 41, 3) := by decide +kernel
theorem dX7_comesBy_110 : decode cX7_comesBy 110 = .ok (.goto 36, 3) := by decide +kernel
theorem dX7_comesBy_148 : decode cX7_comesBy 148 = .ok (.iload 6, 2) := by decide +kernel
theorem dX7_comesBy_150 : decode cX7_comesBy 150 = .ok (.ifCond .ge 17, 3) := by decide +kernel
theorem dX7_comesBy_167 : decode cX7_comesBy 167 = .ok (.iinc 5 1, 3) := by decide +kernel
theorem dX7_comesBy_170 : decode cX7_comesBy 170 = .ok (.goto (-104), 3) := by decide +kernel
theorem dX7_comesBy_153 : decode cX7_comesBy 153 = .ok (.aload_n 0, 1) := by decide +kernel
theorem dX7_comesBy_154 : decode cX7_comesBy 154 = .ok (.getfield 75, 3) := by decide +kernel
theorem dX7_comesBy_157 : decode cX7_comesBy 157 = .ok (.iload 4, 2) := by decide +kernel
theorem dX7_comesBy_159 : decode cX7_comesBy 159 = .ok (.iconst 1, 1) := by decide +kernel
theorem dX7_comesBy_160 : decode cX7_comesBy 160 = .ok (.isub, 1) := by decide +kernel
theorem dX7_comesBy_161 : decode cX7_comesBy 161 = .ok (.iload 6, 2) := by decide +kernel
theorem dX7_comesBy_163 : decode cX7_comesBy 163 = .ok (.isub, 1) := by decide +kernel
theorem dX7_comesBy_164 : decode cX7_comesBy 164 = .ok (.iload 7, 2) := by decide +kernel
theorem dX7_comesBy_166 : decode cX7_comesBy 166 = .ok (.iastore, 1) := by decide +kernel
theorem dX7_comesBy_173 : decode cX7_comesBy 173 = .ok (.iconst 1, 1) := by decide +kernel
theorem dX7_comesBy_174 : decode cX7_comesBy 174 = .ok (.ireturn, 1) := by decide +kernel
theorem dX7_come_0 : decode cX7_come 0 = .ok (.aload_n 0, 1) := by decide +kernel
theorem dX7_come_1 : decode cX7_come 1 = .ok (.getfield 175, 3) := by decide +kernel
theorem dX7_come_4 : decode cX7_come 4 = .ok (.sipush 500, 3) := by decide +kernel
theorem dX7_come_7 : decode cX7_come 7 = .ok (.if_icmp .ge 13, 3) := by decide +kernel
theorem dX7_come_10 : decode cX7_come 10 = .ok (.aload_n 0, 1) := by decide +kernel
theorem dX7_come_11 : decode cX7_come 11 = .ok (.getfield 78, 3) := by decide +kernel
theorem dX7_come_14 : decode cX7_come 14 = .ok (.aload_n 0, 1) := by decide +kernel
theorem dX7_come_15 : decode cX7_come 15 = .ok (.getfield 175, 3) := by decide +kernel
theorem dX7_come_18 : decode cX7_come 18 = .ok (.iload_n 1, 1) := by decide +kernel
theorem dX7_come_19 : decode cX7_come 19 = .ok (.iastore, 1) := by decide +kernel
theorem dX7_come_20 : decode cX7_come 20 = .ok (.aload_n 0, 1) := by decide +kernel
theorem dX7_come_21 : decode cX7_come 21 = .ok (.aload_n 0, 1) := by decide +kernel
theorem dX7_come_22 : decode cX7_come 22 = .ok (.getfield 175, 3) := by decide +kernel
theorem dX7_come_25 : decode cX7_come 25 = .ok (.sipush 500, 3) := by decide +kernel
theorem dX7_come_28 : decode cX7_come 28 = .ok (.if_icmp .gt 12, 3) := by decide +kernel
theorem dX7_come_40 : decode cX7_come 40 = .ok (.aload_n 0, 1) := by decide +kernel
theorem dX7_come_41 : decode cX7_come 41 = .ok (.getfield 175, 3) := by decide +kernel
theorem dX7_come_44 : decode cX7_come 44 = .ok (.putfield 175, 3) := by decide +kernel
theorem dX7_come_47 : decode cX7_come 47 = .ok (.return_, 1) := by decide +kernel
theorem dX7_come_31 : decode cX7_come 31 = .ok (.aload_n 0, 1) := by decide +kernel
theorem dX7_come_32 : decode cX7_come 32 = .ok (.getfield 175, 3) := by decide +kernel
theorem dX7_come_35 : decode cX7_come 35 = .ok (.iconst 1, 1) := by decide +kernel
theorem dX7_come_36 : decode cX7_come 36 = .ok (.iadd, 1) := by decide +kernel
theorem dX7_come_37 : decode cX7_come 37 = .ok (.goto 7, 3) := by decide +kernel
theorem dX7_stay_0 : decode cX7_stay 0 = .ok (.aload_n 0, 1) := by decide +kernel
theorem dX7_stay_1 : decode cX7_stay 1 = .ok (.getfield 175, 3) := by decide +kernel
theorem dX7_stay_4 : decode cX7_stay 4 = .ok (.sipush 500, 3) := by decide +kernel
theorem dX7_stay_7 : decode cX7_stay 7 = .ok (.if_icmp .ge 42, 3) := by decide +kernel
theorem dX7_stay_10 : decode cX7_stay 10 = .ok (.iconst 0, 1) := by decide +kernel
theorem dX7_stay_11 : decode cX7_stay 11 = .ok (.istore_n 2, 1) := by decide +kernel
theorem dX7_stay_12 : decode cX7_stay 12 = .ok (.iload_n 2, 1) := by decide +kernel
theorem dX7_stay_13 : decode cX7_stay 13 = .ok (.bipush 8, 2) := by decide +kernel
theorem dX7_stay_15 : decode cX7_stay 15 = .ok (.if_icmp .ge 34, 3) := by decide +kernel
theorem dX7_stay_18 : decode cX7_stay 18 = .ok (.aload_n 0, 1) := by decide +kernel
theorem dX7_stay_19 : decode cX7_stay 19 = .ok (.getfield 75, 3) := by decide +kernel
theorem dX7_stay_22 : decode cX7_stay 22 = .ok (.bipush 8, 2) := by decide +kernel
theorem dX7_stay_24 : decode cX7_stay 24 = .ok (.aload_n 0, 1) := by decide +kernel
theorem dX7_stay_25 : decode cX7_stay 25 = .ok (.getfield 175, 3) := by decide +kernel
theorem dX7_stay_28 : decode cX7_stay 28 = .ok (.imul, 1) := by decide +kernel
theorem dX7_stay_29 : decode cX7_stay 29 = .ok (.iload_n 2, 1) := by decide +kernel
theorem dX7_stay_30 : decode cX7_stay 30 = .ok (.iadd, 1) := by decide +kernel
theorem dX7_stay_31 : decode cX7_stay 31 = .ok (.aload_n 0, 1) := by decide +kernel
theorem dX7_stay_32 : decode cX7_stay 32 = .ok (.getfield 69, 3) := by decide +kernel
theorem dX7_stay_35 : decode cX7_stay 35 = .ok (.bipush 8, 2) := by decide +kernel
theorem dX7_stay_37 : decode cX7_stay 37 = .ok (.iload_n 1, 1) := by decide +kernel
theorem dX7_stay_38 : decode cX7_stay 38 = .ok (.imul, 1) := by decide +kernel
theorem dX7_stay_39 : decode cX7_stay 39 = .ok (.iload_n 2, 1) := by decide +kernel
theorem dX7_stay_40 : decode cX7_stay 40 = .ok (.iadd, 1) := by decide +kernel
theorem dX7_stay_41 : decode cX7_stay 41 = .ok (.iaload, 1) := by decide +kernel
theorem dX7_stay_42 : decode cX7_stay 42 = .ok (.iastore, 1) := by decide +kernel
theorem dX7_stay_43 : decode cX7_stay 43 = .ok (.iinc 2 1, 3) := by decide +kernel
theorem dX7_stay_46 : decode cX7_stay 46 = .ok (.goto (-34), 3) := by decide +kernel
theorem dX7_stay_49 : decode cX7_stay 49 = .ok (.aload_n 0, 1) := by decide +kernel
theorem dX7_stay_50 : decode cX7_stay 50 = .ok (.aload_n 0, 1) := by decide +kernel
theorem dX7_stay_51 : decode cX7_stay 51 = .ok (.getfield 72, 3) := by decide +kernel
theorem dX7_stay_54 : decode cX7_stay 54 = .ok (.iload_n 1, 1) := by decide +kernel
theorem dX7_stay_55 : decode cX7_stay 55 = .ok (.iaload, 1) := by decide +kernel
theorem dX7_stay_56 : decode cX7_stay 56 = .ok (.invokevirtual 178, 3) := by decide +kernel
theorem dX7_stay_59 : decode cX7_stay 59 = .ok (.return_, 1) := by decide +kernel
theorem dX7_go_0 : decode cX7_go 0 = .ok (.aload_n 0, 1) := by decide +kernel
theorem dX7_go_1 : decode cX7_go 1 = .ok (.iconst 0, 1) := by decide +kernel
theorem dX7_go_2 : decode cX7_go 2 = .ok (.putfield 175, 3) := by decide +kernel
theorem dX7_go_5 : decode cX7_go 5 = .ok (.iconst 0, 1) := by decide +kernel
theorem dX7_go_6 : decode cX7_go 6 = .ok (.istore_n 2, 1) := by decide +kernel
theorem dX7_go_7 : decode cX7_go 7 = .ok (.iload_n 2, 1) := by decide +kernel
theorem dX7_go_8 : decode cX7_go 8 = .ok (.aload_n 0, 1) := by decide +kernel
theorem dX7_go_9 : decode cX7_go 9 = .ok (.getfield 181, 3) := by decide +kernel
theorem dX7_go_12 : decode cX7_go 12 = .ok (.if_icmp .ge 146, 3) := by decide +kernel
theorem dX7_go_15 : decode cX7_go 15 = .ok (.aload_n 0, 1) := by decide +kernel
theorem dX7_go_16 : decode cX7_go 16 = .ok (.getfield 175, 3) := by decide +kernel
theorem dX7_go_19 : decode cX7_go 19 = .ok (.sipush 500, 3) := by decide +kernel
theorem dX7_go_22 : decode cX7_go 22 = .ok (.if_icmp .gt 136, 3) := by decide +kernel
theorem dX7_go_25 : decode cX7_go 25 = .ok (.aload_n 0, 1) := by decide +kernel
theorem dX7_go_26 : decode cX7_go 26 = .ok (.iload_n 1, 1) := by decide +kernel
theorem dX7_go_27 : decode cX7_go 27 = .ok (.invokevirtual 107, 3) := by decide +kernel
theorem dX7_go_30 : decode cX7_go 30 = .ok (.ifCond .ne 35, 3) := by decide +kernel
theorem dX7_go_65 : decode cX7_go 65 = .ok (.iconst 1, 1) := by decide +kernel
theorem dX7_go_66 : decode cX7_go 66 = .ok (.goto 4, 3) := by decide +kernel
theorem dX7_go_33 : decode cX7_go 33 = .ok (.aload_n 0, 1) := by decide +kernel
theorem dX7_go_34 : decode cX7_go 34 = .ok (.aload_n 0, 1) := by decide +kernel
theorem dX7_go_35 : decode cX7_go 35 = .ok (.getfield 19, 3) := by decide +kernel
theorem dX7_go_38 : decode cX7_go 38 = .ok (.iload_n 1, 1) := by decide +kernel
theorem dX7_go_39 : decode cX7_go 39 = .ok (.iaload, 1) := by decide +kernel
theorem dX7_go_40 : decode cX7_go 40 = .ok (.invokevirtual 107, 3) := by decide +kernel
theorem dX7_go_43 : decode cX7_go 43 = .ok (.ifCond .ne 22, 3) := by decide +kernel
theorem dX7_go_46 : decode cX7_go 46 = .ok (.aload_n 0, 1) := by decide +kernel
theorem dX7_go_47 : decode cX7_go 47 = .ok (.getfield 72, 3) := by decide +kernel
theorem dX7_go_50 : decode cX7_go 50 = .ok (.iload_n 2, 1) := by decide +kernel
theorem dX7_go_51 : decode cX7_go 51 = .ok (.iaload, 1) := by decide +kernel
theorem dX7_go_52 : decode cX7_go 52 = .ok (.aload_n 0, 1) := by decide +kernel
theorem dX7_go_53 : decode cX7_go 53 = .ok (.getfield 19, 3) := by decide +kernel
theorem dX7_go_56 : decode cX7_go 56 = .ok (.iload_n 1, 1) := by decide +kernel
theorem dX7_go_57 : decode cX7_go 57 = .ok (.iaload, 1) := by decide +kernel
theorem dX7_go_58 : decode cX7_go 58 = .ok (.ishr, 1) := by decide +kernel
theorem dX7_go_59 : decode cX7_go 59 = .ok (.iconst 1, 1) := by decide +kernel
theorem dX7_go_60 : decode cX7_go 60 = .ok (.iand, 1) := by decide +kernel
theorem dX7_go_61 : decode cX7_go 61 = .ok (.iconst 1, 1) := by decide +kernel
theorem dX7_go_62 : decode cX7_go 62 = .ok (.if_icmp .ne 7, 3) := by decide +kernel
theorem dX7_go_69 : decode cX7_go 69 = .ok (.iconst 0, 1) := by decide +kernel
theorem dX7_go_70 : decode cX7_go 70 = .ok (.istore_n 3, 1) := by decide +kernel
theorem dX7_go_71 : decode cX7_go 71 = .ok (.iconst 0, 1) := by decide +kernel
theorem dX7_go_72 : decode cX7_go 72 = .ok (.istore 4, 2) := by decide +kernel
theorem dX7_go_74 : decode cX7_go 74 = .ok (.iconst 0, 1) := by decide +kernel
theorem dX7_go_75 : decode cX7_go 75 = .ok (.istore 5, 2) := by decide +kernel
theorem dX7_go_77 : decode cX7_go 77 = .ok (.iload 5, 2) := by decide +kernel
theorem dX7_go_79 : decode cX7_go 79 = .ok (.aload_n 0, 1) := by decide +kernel
theorem dX7_go_80 : decode cX7_go 80 = .ok (.getfield 95, 3) := by decide +kernel
theorem dX7_go_83 : decode cX7_go 83 = .ok (.if_icmp .ge 51, 3) := by decide +kernel
theorem dX7_go_86 : decode cX7_go 86 = .ok (.iload_n 3, 1) := by decide +kernel
theorem dX7_go_87 : decode cX7_go 87 = .ok (.ifCond .eq 47, 3) := by decide +kernel
theorem dX7_go_90 : decode cX7_go 90 = .ok (.aload_n 0, 1) := by decide +kernel
theorem dX7_go_91 : decode cX7_go 91 = .ok (.getfield 175, 3) := by decide +kernel
theorem dX7_go_94 : decode cX7_go 94 = .ok (.sipush 500, 3) := by decide +kernel
theorem dX7_go_97 : decode cX7_go 97 = .ok (.if_icmp .gt 37, 3) := by decide +kernel
theorem dX7_go_100 : decode cX7_go 100 = .ok (.aload_n 0, 1) := by decide +kernel
theorem dX7_go_101 : decode cX7_go 101 = .ok (.iload_n 2, 1) := by decide +kernel
theorem dX7_go_102 : decode cX7_go 102 = .ok (.iload_n 1, 1) := by decide +kernel
theorem dX7_go_103 : decode cX7_go 103 = .ok (.iload 5, 2) := by decide +kernel
theorem dX7_go_105 : decode cX7_go 105 = .ok (.invokevirtual 184, 3) := by decide +kernel
theorem dX7_go_108 : decode cX7_go 108 = .ok (.ifCond .eq 20, 3) := by decide +kernel
theorem dX7_go_128 : decode cX7_go 128 = .ok (.iinc 5 1, 3) := by decide +kernel
theorem dX7_go_131 : decode cX7_go 131 = .ok (.goto (-54), 3) := by decide +kernel
theorem dX7_go_111 : decode cX7_go 111 = .ok (.iconst 1, 1) := by decide +kernel
theorem dX7_go_112 : decode cX7_go 112 = .ok (.istore 4, 2) := by decide +kernel
theorem dX7_go_114 : decode cX7_go 114 = .ok (.aload_n 0, 1) := by decide +kernel
theorem dX7_go_115 : decode cX7_go 115 = .ok (.aload_n 0, 1) := by decide +kernel
theorem dX7_go_116 : decode cX7_go 116 = .ok (.getfield 72, 3) := by decide +kernel
theorem dX7_go_119 : decode cX7_go 119 = .ok (.iload_n 2, 1) := by decide +kernel
theorem dX7_go_120 : decode cX7_go 120 = .ok (.iaload, 1) := by decide +kernel
theorem dX7_go_121 : decode cX7_go 121 = .ok (.iconst 1, 1) := by decide +kernel
theorem dX7_go_122 : decode cX7_go 122 = .ok (.iload_n 1, 1) := by decide +kernel
theorem dX7_go_123 : decode cX7_go 123 = .ok (.ishl, 1) := by decide +kernel
theorem dX7_go_124 : decode cX7_go 124 = .ok (.ior, 1) := by decide +kernel
theorem dX7_go_125 : decode cX7_go 125 = .ok (.invokevirtual 178, 3) := by decide +kernel
theorem dX7_go_134 : decode cX7_go 134 = .ok (.iload 4, 2) := by decide +kernel
theorem dX7_go_136 : decode cX7_go 136 = .ok (.ifCond .ne 16, 3) := by decide +kernel
theorem dX7_go_152 : decode cX7_go 152 = .ok (.iinc 2 1, 3) := by decide +kernel
theorem dX7_go_155 : decode cX7_go 155 = .ok (.goto (-148), 3) := by decide +kernel
theorem dX7_go_139 : decode cX7_go 139 = .ok (.aload_n 0, 1) := by decide +kernel
theorem dX7_go_140 : decode cX7_go 140 = .ok (.iload_n 1, 1) := by decide +kernel
theorem dX7_go_141 : decode cX7_go 141 = .ok (.invokevirtual 107, 3) := by decide +kernel
theorem dX7_go_144 : decode cX7_go 144 = .ok (.ifCond .ne 8, 3) := by decide +kernel
theorem dX7_go_147 : decode cX7_go 147 = .ok (.aload_n 0, 1) := by decide +kernel
theorem dX7_go_148 : decode cX7_go 148 = .ok (.iload_n 2, 1) := by decide +kernel
theorem dX7_go_149 : decode cX7_go 149 = .ok (.invokevirtual 188, 3) := by decide +kernel
theorem dX7_go_158 : decode cX7_go 158 = .ok (.aload_n 0, 1) := by decide +kernel
theorem dX7_go_159 : decode cX7_go 159 = .ok (.aload_n 0, 1) := by decide +kernel
theorem dX7_go_160 : decode cX7_go 160 = .ok (.getfield 175, 3) := by decide +kernel
theorem dX7_go_163 : decode cX7_go 163 = .ok (.putfield 181, 3) := by decide +kernel
theorem dX7_go_166 : decode cX7_go 166 = .ok (.iconst 0, 1) := by decide +kernel
theorem dX7_go_167 : decode cX7_go 167 = .ok (.istore_n 2, 1) := by decide +kernel
theorem dX7_go_168 : decode cX7_go 168 = .ok (.iload_n 2, 1) := by decide +kernel
theorem dX7_go_169 : decode cX7_go 169 = .ok (.bipush 8, 2) := by decide +kernel
theorem dX7_go_171 : decode cX7_go 171 = .ok (.aload_n 0, 1) := by decide +kernel
theorem dX7_go_172 : decode cX7_go 172 = .ok (.getfield 181, 3) := by decide +kernel
theorem dX7_go_175 : decode cX7_go 175 = .ok (.imul, 1) := by decide +kernel
theorem dX7_go_176 : decode cX7_go 176 = .ok (.if_icmp .ge 31, 3) := by decide +kernel
theorem dX7_go_179 : decode cX7_go 179 = .ok (.aload_n 0, 1) := by decide +kernel
theorem dX7_go_180 : decode cX7_go 180 = .ok (.getfield 181, 3) := by decide +kernel
theorem dX7_go_183 : decode cX7_go 183 = .ok (.sipush 500, 3) := by decide +kernel
theorem dX7_go_186 : decode cX7_go 186 = .ok (.if_icmp .gt 21, 3) := by decide +kernel
theorem dX7_go_189 : decode cX7_go 189 = .ok (.aload_n 0, 1) := by decide +kernel
theorem dX7_go_190 : decode cX7_go 190 = .ok (.getfield 69, 3) := by decide +kernel
theorem dX7_go_193 : decode cX7_go 193 = .ok (.iload_n 2, 1) := by decide +kernel
theorem dX7_go_194 : decode cX7_go 194 = .ok (.aload_n 0, 1) := by decide +kernel
theorem dX7_go_195 : decode cX7_go 195 = .ok (.getfield 75, 3) := by decide +kernel
theorem dX7_go_198 : decode cX7_go 198 = .ok (.iload_n 2, 1) := by decide +kernel
theorem dX7_go_199 : decode cX7_go 199 = .ok (.iaload, 1) := by decide +kernel
theorem dX7_go_200 : decode cX7_go 200 = .ok (.iastore, 1) := by decide +kernel
theorem dX7_go_201 : decode cX7_go 201 = .ok (.iinc 2 1, 3) := by decide +kernel
theorem dX7_go_204 : decode cX7_go 204 = .ok (.goto (-36), 3) := by decide +kernel
theorem dX7_go_207 : decode cX7_go 207 = .ok (.iconst 0, 1) := by decide +kernel
theorem dX7_go_208 : decode cX7_go 208 = .ok (.istore_n 2, 1) := by decide +kernel
theorem dX7_go_209 : decode cX7_go 209 = .ok (.iload_n 2, 1) := by decide +kernel
theorem dX7_go_210 : decode cX7_go 210 = .ok (.aload_n 0, 1) := by decide +kernel
theorem dX7_go_211 : decode cX7_go 211 = .ok (.getfield 181, 3) := by decide +kernel
theorem dX7_go_214 : decode cX7_go 214 = .ok (.if_icmp .ge 31, 3) := by decide +kernel
theorem dX7_go_217 : decode cX7_go 217 = .ok (.aload_n 0, 1) := by decide +kernel
theorem dX7_go_218 : decode cX7_go 218 = .ok (.getfield 181, 3) := by decide +kernel
theorem dX7_go_221 : decode cX7_go 221 = .ok (.sipush 500, 3) := by decide +kernel
theorem dX7_go_224 : decode cX7_go 224 = .ok (.if_icmp .gt 21, 3) := by decide +kernel
theorem dX7_go_227 : decode cX7_go 227 = .ok (.aload_n 0, 1) := by decide +kernel
theorem dX7_go_228 : decode cX7_go 228 = .ok (.getfield 72, 3) := by decide +kernel
theorem dX7_go_231 : decode cX7_go 231 = .ok (.iload_n 2, 1) := by decide +kernel
theorem dX7_go_232 : decode cX7_go 232 = .ok (.aload_n 0, 1) := by decide +kernel
theorem dX7_go_233 : decode cX7_go 233 = .ok (.getfield 78, 3) := by decide +kernel
theorem dX7_go_236 : decode cX7_go 236 = .ok (.iload_n 2, 1) := by decide +kernel
theorem dX7_go_237 : decode cX7_go 237 = .ok (.iaload, 1) := by decide +kernel
theorem dX7_go_238 : decode cX7_go 238 = .ok (.iastore, 1) := by decide +kernel
theorem dX7_go_239 : decode cX7_go 239 = .ok (.iinc 2 1, 3) := by decide +kernel
theorem dX7_go_242 : decode cX7_go 242 = .ok (.goto (-33), 3) := by decide +kernel
theorem dX7_go_245 : decode cX7_go 245 = .ok (.aload_n 0, 1) := by decide +kernel
theorem dX7_go_246 : decode cX7_go 246 = .ok (.getfield 181, 3) := by decide +kernel
theorem dX7_go_249 : decode cX7_go 249 = .ok (.sipush 500, 3) := by decide +kernel
theorem dX7_go_252 : decode cX7_go 252 = .ok (.if_icmp .gt 7, 3) := by decide +kernel
theorem dX7_go_259 : decode cX7_go 259 = .ok (.iconst 0, 1) := by decide +kernel
theorem dX7_go_260 : decode cX7_go 260 = .ok (.ireturn, 1) := by decide +kernel
theorem dX7_go_255 : decode cX7_go 255 = .ok (.iconst 1, 1) := by decide +kernel
theorem dX7_go_256 : decode cX7_go 256 = .ok (.goto 4, 3) := by decide +kernel
theorem dX7_holds_0 : decode cX7_holds 0 = .ok (.aload_n 0, 1) := by decide +kernel
theorem dX7_holds_1 : decode cX7_holds 1 = .ok (.getfield 32, 3) := by decide +kernel
theorem dX7_holds_4 : decode cX7_holds 4 = .ok (.iload_n 1, 1) := by decide +kernel
theorem dX7_holds_5 : decode cX7_holds 5 = .ok (.iaload, 1) := by decide +kernel
theorem dX7_holds_6 : decode cX7_holds 6 = .ok (.istore_n 3, 1) := by decide +kernel
theorem dX7_holds_7 : decode cX7_holds 7 = .ok (.iload_n 2, 1) := by decide +kernel
theorem dX7_holds_8 : decode cX7_holds 8 = .ok (.ifCond .lt 65, 3) := by decide +kernel
theorem dX7_holds_73 : decode cX7_holds 73 = .ok (.iconst 0, 1) := by decide +kernel
theorem dX7_holds_74 : decode cX7_holds 74 = .ok (.ireturn, 1) := by decide +kernel
theorem dX7_holds_11 : decode cX7_holds 11 = .ok (.aload_n 0, 1) := by decide +kernel
theorem dX7_holds_12 : decode cX7_holds 12 = .ok (.getfield 29, 3) := by decide +kernel
theorem dX7_holds_15 : decode cX7_holds 15 = .ok (.iload_n 1, 1) := by decide +kernel
theorem dX7_holds_16 : decode cX7_holds 16 = .ok (.iaload, 1) := by decide +kernel
theorem dX7_holds_17 : decode cX7_holds 17 = .ok (.ifCond .ne 11, 3) := by decide +kernel
theorem dX7_holds_28 : decode cX7_holds 28 = .ok (.aload_n 0, 1) := by decide +kernel
theorem dX7_holds_29 : decode cX7_holds 29 = .ok (.getfield 29, 3) := by decide +kernel
theorem dX7_holds_32 : decode cX7_holds 32 = .ok (.iload_n 1, 1) := by decide +kernel
theorem dX7_holds_33 : decode cX7_holds 33 = .ok (.iaload, 1) := by decide +kernel
theorem dX7_holds_34 : decode cX7_holds 34 = .ok (.iconst 1, 1) := by decide +kernel
theorem dX7_holds_35 : decode cX7_holds 35 = .ok (.if_icmp .ne 11, 3) := by decide +kernel
theorem dX7_holds_46 : decode cX7_holds 46 = .ok (.aload_n 0, 1) := by decide +kernel
theorem dX7_holds_47 : decode cX7_holds 47 = .ok (.getfield 29, 3) := by decide +kernel
theorem dX7_holds_50 : decode cX7_holds 50 = .ok (.iload_n 1, 1) := by decide +kernel
theorem dX7_holds_51 : decode cX7_holds 51 = .ok (.iaload, 1) := by decide +kernel
theorem dX7_holds_52 : decode cX7_holds 52 = .ok (.iconst 2, 1) := by decide +kernel
theorem dX7_holds_53 : decode cX7_holds 53 = .ok (.if_icmp .ne 11, 3) := by decide +kernel
theorem dX7_holds_64 : decode cX7_holds 64 = .ok (.iload_n 2, 1) := by decide +kernel
theorem dX7_holds_65 : decode cX7_holds 65 = .ok (.iload_n 3, 1) := by decide +kernel
theorem dX7_holds_66 : decode cX7_holds 66 = .ok (.if_icmp .le 7, 3) := by decide +kernel
theorem dX7_holds_69 : decode cX7_holds 69 = .ok (.iconst 1, 1) := by decide +kernel
theorem dX7_holds_70 : decode cX7_holds 70 = .ok (.goto 4, 3) := by decide +kernel
theorem dX7_holds_56 : decode cX7_holds 56 = .ok (.iload_n 2, 1) := by decide +kernel
theorem dX7_holds_57 : decode cX7_holds 57 = .ok (.iload_n 3, 1) := by decide +kernel
theorem dX7_holds_58 : decode cX7_holds 58 = .ok (.if_icmp .ge 15, 3) := by decide +kernel
theorem dX7_holds_61 : decode cX7_holds 61 = .ok (.goto 8, 3) := by decide +kernel
theorem dX7_holds_38 : decode cX7_holds 38 = .ok (.iload_n 2, 1) := by decide +kernel
theorem dX7_holds_39 : decode cX7_holds 39 = .ok (.iload_n 3, 1) := by decide +kernel
theorem dX7_holds_40 : decode cX7_holds 40 = .ok (.if_icmp .eq 33, 3) := by decide +kernel
theorem dX7_holds_43 : decode cX7_holds 43 = .ok (.goto 26, 3) := by decide +kernel
theorem dX7_holds_20 : decode cX7_holds 20 = .ok (.iload_n 2, 1) := by decide +kernel
theorem dX7_holds_21 : decode cX7_holds 21 = .ok (.iload_n 3, 1) := by decide +kernel
theorem dX7_holds_22 : decode cX7_holds 22 = .ok (.if_icmp .ne 51, 3) := by decide +kernel
theorem dX7_holds_25 : decode cX7_holds 25 = .ok (.goto 44, 3) := by decide +kernel
theorem dX7_sift_0 : decode cX7_sift 0 = .ok (.iconst 0, 1) := by decide +kernel
theorem dX7_sift_1 : decode cX7_sift 1 = .ok (.istore_n 2, 1) := by decide +kernel
theorem dX7_sift_2 : decode cX7_sift 2 = .ok (.iconst 0, 1) := by decide +kernel
theorem dX7_sift_3 : decode cX7_sift 3 = .ok (.istore_n 3, 1) := by decide +kernel
theorem dX7_sift_4 : decode cX7_sift 4 = .ok (.iload_n 3, 1) := by decide +kernel
theorem dX7_sift_5 : decode cX7_sift 5 = .ok (.aload_n 0, 1) := by decide +kernel
theorem dX7_sift_6 : decode cX7_sift 6 = .ok (.getfield 181, 3) := by decide +kernel
theorem dX7_sift_9 : decode cX7_sift 9 = .ok (.if_icmp .ge 90, 3) := by decide +kernel
theorem dX7_sift_12 : decode cX7_sift 12 = .ok (.aload_n 0, 1) := by decide +kernel
theorem dX7_sift_13 : decode cX7_sift 13 = .ok (.iload_n 1, 1) := by decide +kernel
theorem dX7_sift_14 : decode cX7_sift 14 = .ok (.aload_n 0, 1) := by decide +kernel
theorem dX7_sift_15 : decode cX7_sift 15 = .ok (.getfield 69, 3) := by decide +kernel
theorem dX7_sift_18 : decode cX7_sift 18 = .ok (.bipush 8, 2) := by decide +kernel
theorem dX7_sift_20 : decode cX7_sift 20 = .ok (.iload_n 3, 1) := by decide +kernel
theorem dX7_sift_21 : decode cX7_sift 21 = .ok (.imul, 1) := by decide +kernel
theorem dX7_sift_22 : decode cX7_sift 22 = .ok (.iconst 1, 1) := by decide +kernel
theorem dX7_sift_23 : decode cX7_sift 23 = .ok (.isub, 1) := by decide +kernel
theorem dX7_sift_24 : decode cX7_sift 24 = .ok (.aload_n 0, 1) := by decide +kernel
theorem dX7_sift_25 : decode cX7_sift 25 = .ok (.getfield 26, 3) := by decide +kernel
theorem dX7_sift_28 : decode cX7_sift 28 = .ok (.iload_n 1, 1) := by decide +kernel
theorem dX7_sift_29 : decode cX7_sift 29 = .ok (.iaload, 1) := by decide +kernel
theorem dX7_sift_30 : decode cX7_sift 30 = .ok (.isub, 1) := by decide +kernel
theorem dX7_sift_31 : decode cX7_sift 31 = .ok (.iaload, 1) := by decide +kernel
theorem dX7_sift_32 : decode cX7_sift 32 = .ok (.invokevirtual 191, 3) := by decide +kernel
theorem dX7_sift_35 : decode cX7_sift 35 = .ok (.ifCond .eq 58, 3) := by decide +kernel
theorem dX7_sift_93 : decode cX7_sift 93 = .ok (.iinc 3 1, 3) := by decide +kernel
theorem dX7_sift_96 : decode cX7_sift 96 = .ok (.goto (-92), 3) := by decide +kernel
theorem dX7_sift_38 : decode cX7_sift 38 = .ok (.iconst 0, 1) := by decide +kernel
theorem dX7_sift_39 : decode cX7_sift 39 = .ok (.istore 4, 2) := by decide +kernel
theorem dX7_sift_41 : decode cX7_sift 41 = .ok (.iload 4, 2) := by decide +kernel
theorem dX7_sift_43 : decode cX7_sift 43 = .ok (.bipush 8, 2) := by decide +kernel
theorem dX7_sift_45 : decode cX7_sift 45 = .ok (.if_icmp .ge 33, 3) := by decide +kernel
theorem dX7_sift_48 : decode cX7_sift 48 = .ok (.aload_n 0, 1) := by decide +kernel
theorem dX7_sift_49 : decode cX7_sift 49 = .ok (.getfield 69, 3) := by decide +kernel
theorem dX7_sift_52 : decode cX7_sift 52 = .ok (.bipush 8, 2) := by decide +kernel
theorem dX7_sift_54 : decode cX7_sift 54 = .ok (.iload_n 2, 1) := by decide +kernel
theorem dX7_sift_55 : decode cX7_sift 55 = .ok (.imul, 1) := by decide +kernel
theorem dX7_sift_56 : decode cX7_sift 56 = .ok (.iload 4, 2) := by decide +kernel
theorem dX7_sift_58 : decode cX7_sift 58 = .ok (.iadd, 1) := by decide +kernel
theorem dX7_sift_59 : decode cX7_sift 59 = .ok (.aload_n 0, 1) := by decide +kernel
theorem dX7_sift_60 : decode cX7_sift 60 = .ok (.getfield 69, 3) := by decide +kernel
theorem dX7_sift_63 : decode cX7_sift 63 = .ok (.bipush 8, 2) := by decide +kernel
theorem dX7_sift_65 : decode cX7_sift 65 = .ok (.iload_n 3, 1) := by decide +kernel
theorem dX7_sift_66 : decode cX7_sift 66 = .ok (.imul, 1) := by decide +kernel
theorem dX7_sift_67 : decode cX7_sift 67 = .ok (.iload 4, 2) := by decide +kernel
theorem dX7_sift_69 : decode cX7_sift 69 = .ok (.iadd, 1) := by decide +kernel
theorem dX7_sift_70 : decode cX7_sift 70 = .ok (.iaload, 1) := by decide +kernel
theorem dX7_sift_71 : decode cX7_sift 71 = .ok (.iastore, 1) := by decide +kernel
theorem dX7_sift_72 : decode cX7_sift 72 = .ok (.iinc 4 1, 3) := by decide +kernel
theorem dX7_sift_75 : decode cX7_sift 75 = .ok (.goto (-34), 3) := by decide +kernel
theorem dX7_sift_78 : decode cX7_sift 78 = .ok (.aload_n 0, 1) := by decide +kernel
theorem dX7_sift_79 : decode cX7_sift 79 = .ok (.getfield 72, 3) := by decide +kernel
theorem dX7_sift_82 : decode cX7_sift 82 = .ok (.iload_n 2, 1) := by decide +kernel
theorem dX7_sift_83 : decode cX7_sift 83 = .ok (.aload_n 0, 1) := by decide +kernel
theorem dX7_sift_84 : decode cX7_sift 84 = .ok (.getfield 72, 3) := by decide +kernel
theorem dX7_sift_87 : decode cX7_sift 87 = .ok (.iload_n 3, 1) := by decide +kernel
theorem dX7_sift_88 : decode cX7_sift 88 = .ok (.iaload, 1) := by decide +kernel
theorem dX7_sift_89 : decode cX7_sift 89 = .ok (.iastore, 1) := by decide +kernel
theorem dX7_sift_90 : decode cX7_sift 90 = .ok (.iinc 2 1, 3) := by decide +kernel
theorem dX7_sift_99 : decode cX7_sift 99 = .ok (.aload_n 0, 1) := by decide +kernel
theorem dX7_sift_100 : decode cX7_sift 100 = .ok (.iload_n 2, 1) := by decide +kernel
theorem dX7_sift_101 : decode cX7_sift 101 = .ok (.putfield 181, 3) := by decide +kernel
theorem dX7_sift_104 : decode cX7_sift 104 = .ok (.return_, 1) := by decide +kernel
theorem dX7_run_0 : decode cX7_run 0 = .ok (.aload_n 0, 1) := by decide +kernel
theorem dX7_run_1 : decode cX7_run 1 = .ok (.invokevirtual 194, 3) := by decide +kernel
theorem dX7_run_4 : decode cX7_run 4 = .ok (.istore_n 1, 1) := by decide +kernel
theorem dX7_run_5 : decode cX7_run 5 = .ok (.aload_n 0, 1) := by decide +kernel
theorem dX7_run_6 : decode cX7_run 6 = .ok (.invokevirtual 197, 3) := by decide +kernel
theorem dX7_run_9 : decode cX7_run 9 = .ok (.aload_n 0, 1) := by decide +kernel
theorem dX7_run_10 : decode cX7_run 10 = .ok (.iconst 1, 1) := by decide +kernel
theorem dX7_run_11 : decode cX7_run 11 = .ok (.putfield 200, 3) := by decide +kernel
theorem dX7_run_14 : decode cX7_run 14 = .ok (.iconst 0, 1) := by decide +kernel
theorem dX7_run_15 : decode cX7_run 15 = .ok (.istore_n 2, 1) := by decide +kernel
theorem dX7_run_16 : decode cX7_run 16 = .ok (.iload_n 2, 1) := by decide +kernel
theorem dX7_run_17 : decode cX7_run 17 = .ok (.iload_n 1, 1) := by decide +kernel
theorem dX7_run_18 : decode cX7_run 18 = .ok (.if_icmp .ge 68, 3) := by decide +kernel
theorem dX7_run_21 : decode cX7_run 21 = .ok (.aload_n 0, 1) := by decide +kernel
theorem dX7_run_22 : decode cX7_run 22 = .ok (.getfield 200, 3) := by decide +kernel
theorem dX7_run_25 : decode cX7_run 25 = .ok (.ifCond .eq 61, 3) := by decide +kernel
theorem dX7_run_28 : decode cX7_run 28 = .ok (.aload_n 0, 1) := by decide +kernel
theorem dX7_run_29 : decode cX7_run 29 = .ok (.aload_n 0, 1) := by decide +kernel
theorem dX7_run_30 : decode cX7_run 30 = .ok (.aload_n 0, 1) := by decide +kernel
theorem dX7_run_31 : decode cX7_run 31 = .ok (.getfield 54, 3) := by decide +kernel
theorem dX7_run_34 : decode cX7_run 34 = .ok (.iload_n 2, 1) := by decide +kernel
theorem dX7_run_35 : decode cX7_run 35 = .ok (.iaload, 1) := by decide +kernel
theorem dX7_run_36 : decode cX7_run 36 = .ok (.invokevirtual 204, 3) := by decide +kernel
theorem dX7_run_39 : decode cX7_run 39 = .ok (.putfield 200, 3) := by decide +kernel
theorem dX7_run_42 : decode cX7_run 42 = .ok (.iconst 0, 1) := by decide +kernel
theorem dX7_run_43 : decode cX7_run 43 = .ok (.istore_n 3, 1) := by decide +kernel
theorem dX7_run_44 : decode cX7_run 44 = .ok (.iload_n 3, 1) := by decide +kernel
theorem dX7_run_45 : decode cX7_run 45 = .ok (.aload_n 0, 1) := by decide +kernel
theorem dX7_run_46 : decode cX7_run 46 = .ok (.getfield 117, 3) := by decide +kernel
theorem dX7_run_49 : decode cX7_run 49 = .ok (.if_icmp .ge 31, 3) := by decide +kernel
theorem dX7_run_52 : decode cX7_run 52 = .ok (.aload_n 0, 1) := by decide +kernel
theorem dX7_run_53 : decode cX7_run 53 = .ok (.getfield 200, 3) := by decide +kernel
theorem dX7_run_56 : decode cX7_run 56 = .ok (.ifCond .eq 24, 3) := by decide +kernel
theorem dX7_run_59 : decode cX7_run 59 = .ok (.aload_n 0, 1) := by decide +kernel
theorem dX7_run_60 : decode cX7_run 60 = .ok (.getfield 66, 3) := by decide +kernel
theorem dX7_run_63 : decode cX7_run 63 = .ok (.iload_n 3, 1) := by decide +kernel
theorem dX7_run_64 : decode cX7_run 64 = .ok (.iaload, 1) := by decide +kernel
theorem dX7_run_65 : decode cX7_run 65 = .ok (.iload_n 2, 1) := by decide +kernel
theorem dX7_run_66 : decode cX7_run 66 = .ok (.if_icmp .ne 8, 3) := by decide +kernel
theorem dX7_run_74 : decode cX7_run 74 = .ok (.iinc 3 1, 3) := by decide +kernel
theorem dX7_run_77 : decode cX7_run 77 = .ok (.goto (-33), 3) := by decide +kernel
theorem dX7_run_69 : decode cX7_run 69 = .ok (.aload_n 0, 1) := by decide +kernel
theorem dX7_run_70 : decode cX7_run 70 = .ok (.iload_n 3, 1) := by decide +kernel
theorem dX7_run_71 : decode cX7_run 71 = .ok (.invokevirtual 207, 3) := by decide +kernel
theorem dX7_run_80 : decode cX7_run 80 = .ok (.iinc 2 1, 3) := by decide +kernel
theorem dX7_run_83 : decode cX7_run 83 = .ok (.goto (-67), 3) := by decide +kernel
theorem dX7_run_86 : decode cX7_run 86 = .ok (.iconst 0, 1) := by decide +kernel
theorem dX7_run_87 : decode cX7_run 87 = .ok (.istore_n 2, 1) := by decide +kernel
theorem dX7_run_88 : decode cX7_run 88 = .ok (.iload_n 2, 1) := by decide +kernel
theorem dX7_run_89 : decode cX7_run 89 = .ok (.aload_n 0, 1) := by decide +kernel
theorem dX7_run_90 : decode cX7_run 90 = .ok (.getfield 117, 3) := by decide +kernel
theorem dX7_run_93 : decode cX7_run 93 = .ok (.if_icmp .ge 18, 3) := by decide +kernel
theorem dX7_run_96 : decode cX7_run 96 = .ok (.iload_n 1, 1) := by decide +kernel
theorem dX7_run_97 : decode cX7_run 97 = .ok (.ifCond .ne 14, 3) := by decide +kernel
theorem dX7_run_100 : decode cX7_run 100 = .ok (.aload_n 0, 1) := by decide +kernel
theorem dX7_run_101 : decode cX7_run 101 = .ok (.iload_n 2, 1) := by decide +kernel
theorem dX7_run_102 : decode cX7_run 102 = .ok (.invokevirtual 207, 3) := by decide +kernel
theorem dX7_run_105 : decode cX7_run 105 = .ok (.iinc 2 1, 3) := by decide +kernel
theorem dX7_run_108 : decode cX7_run 108 = .ok (.goto (-20), 3) := by decide +kernel
theorem dX7_run_111 : decode cX7_run 111 = .ok (.aload_n 0, 1) := by decide +kernel
theorem dX7_run_112 : decode cX7_run 112 = .ok (.aload_n 0, 1) := by decide +kernel
theorem dX7_run_113 : decode cX7_run 113 = .ok (.getfield 200, 3) := by decide +kernel
theorem dX7_run_116 : decode cX7_run 116 = .ok (.ifCond .eq 10, 3) := by decide +kernel
theorem dX7_run_126 : decode cX7_run 126 = .ok (.iconst 0, 1) := by decide +kernel
theorem dX7_run_119 : decode cX7_run 119 = .ok (.aload_n 0, 1) := by decide +kernel
theorem dX7_run_120 : decode cX7_run 120 = .ok (.getfield 181, 3) := by decide +kernel
theorem dX7_run_123 : decode cX7_run 123 = .ok (.goto 4, 3) := by decide +kernel
theorem dX7_run_127 : decode cX7_run 127 = .ok (.putfield 210, 3) := by decide +kernel
theorem dX7_run_130 : decode cX7_run 130 = .ok (.iconst 0, 1) := by decide +kernel
theorem dX7_run_131 : decode cX7_run 131 = .ok (.istore_n 2, 1) := by decide +kernel
theorem dX7_run_132 : decode cX7_run 132 = .ok (.iload_n 2, 1) := by decide +kernel
theorem dX7_run_133 : decode cX7_run 133 = .ok (.bipush 8, 2) := by decide +kernel
theorem dX7_run_135 : decode cX7_run 135 = .ok (.aload_n 0, 1) := by decide +kernel
theorem dX7_run_136 : decode cX7_run 136 = .ok (.getfield 210, 3) := by decide +kernel
theorem dX7_run_139 : decode cX7_run 139 = .ok (.imul, 1) := by decide +kernel
theorem dX7_run_140 : decode cX7_run 140 = .ok (.if_icmp .ge 21, 3) := by decide +kernel
theorem dX7_run_143 : decode cX7_run 143 = .ok (.aload_n 0, 1) := by decide +kernel
theorem dX7_run_144 : decode cX7_run 144 = .ok (.getfield 81, 3) := by decide +kernel
theorem dX7_run_147 : decode cX7_run 147 = .ok (.iload_n 2, 1) := by decide +kernel
theorem dX7_run_148 : decode cX7_run 148 = .ok (.aload_n 0, 1) := by decide +kernel
theorem dX7_run_149 : decode cX7_run 149 = .ok (.getfield 69, 3) := by decide +kernel
theorem dX7_run_152 : decode cX7_run 152 = .ok (.iload_n 2, 1) := by decide +kernel
theorem dX7_run_153 : decode cX7_run 153 = .ok (.iaload, 1) := by decide +kernel
theorem dX7_run_154 : decode cX7_run 154 = .ok (.iastore, 1) := by decide +kernel
theorem dX7_run_155 : decode cX7_run 155 = .ok (.iinc 2 1, 3) := by decide +kernel
theorem dX7_run_158 : decode cX7_run 158 = .ok (.goto (-26), 3) := by decide +kernel
theorem dX7_run_161 : decode cX7_run 161 = .ok (.aload_n 0, 1) := by decide +kernel
theorem dX7_run_162 : decode cX7_run 162 = .ok (.getfield 200, 3) := by decide +kernel
theorem dX7_run_165 : decode cX7_run 165 = .ok (.ifCond .eq 10, 3) := by decide +kernel
theorem dX7_run_175 : decode cX7_run 175 = .ok (.bipush (-4), 2) := by decide +kernel
theorem dX7_run_177 : decode cX7_run 177 = .ok (.ireturn, 1) := by decide +kernel
theorem dX7_run_168 : decode cX7_run 168 = .ok (.aload_n 0, 1) := by decide +kernel
theorem dX7_run_169 : decode cX7_run 169 = .ok (.getfield 210, 3) := by decide +kernel
theorem dX7_run_172 : decode cX7_run 172 = .ok (.goto 5, 3) := by decide +kernel
theorem dX7_row_0 : decode cX7_row 0 = .ok (.iload_n 1, 1) := by decide +kernel
theorem dX7_row_1 : decode cX7_row 1 = .ok (.ifCond .lt 11, 3) := by decide +kernel
theorem dX7_row_12 : decode cX7_row 12 = .ok (.iconst (-1), 1) := by decide +kernel
theorem dX7_row_13 : decode cX7_row 13 = .ok (.ireturn, 1) := by decide +kernel
theorem dX7_row_4 : decode cX7_row 4 = .ok (.iload_n 1, 1) := by decide +kernel
theorem dX7_row_5 : decode cX7_row 5 = .ok (.aload_n 0, 1) := by decide +kernel
theorem dX7_row_6 : decode cX7_row 6 = .ok (.getfield 210, 3) := by decide +kernel
theorem dX7_row_9 : decode cX7_row 9 = .ok (.if_icmp .lt 5, 3) := by decide +kernel
theorem dX7_row_14 : decode cX7_row 14 = .ok (.iload_n 2, 1) := by decide +kernel
theorem dX7_row_15 : decode cX7_row 15 = .ok (.invokestatic 98, 3) := by decide +kernel
theorem dX7_row_18 : decode cX7_row 18 = .ok (.ifCond .eq 19, 3) := by decide +kernel
theorem dX7_row_37 : decode cX7_row 37 = .ok (.bipush (-2), 2) := by decide +kernel
theorem dX7_row_39 : decode cX7_row 39 = .ok (.ireturn, 1) := by decide +kernel
theorem dX7_row_21 : decode cX7_row 21 = .ok (.aload_n 0, 1) := by decide +kernel
theorem dX7_row_22 : decode cX7_row 22 = .ok (.getfield 81, 3) := by decide +kernel
theorem dX7_row_25 : decode cX7_row 25 = .ok (.bipush 8, 2) := by decide +kernel
theorem dX7_row_27 : decode cX7_row 27 = .ok (.iload_n 1, 1) := by decide +kernel
theorem dX7_row_28 : decode cX7_row 28 = .ok (.imul, 1) := by decide +kernel
theorem dX7_row_29 : decode cX7_row 29 = .ok (.iconst 1, 1) := by decide +kernel
theorem dX7_row_30 : decode cX7_row 30 = .ok (.isub, 1) := by decide +kernel
theorem dX7_row_31 : decode cX7_row 31 = .ok (.iload_n 2, 1) := by decide +kernel
theorem dX7_row_32 : decode cX7_row 32 = .ok (.isub, 1) := by decide +kernel
theorem dX7_row_33 : decode cX7_row 33 = .ok (.iaload, 1) := by decide +kernel
theorem dX7_row_34 : decode cX7_row 34 = .ok (.goto 5, 3) := by decide +kernel
theorem dX7_goOptional_0 : decode cX7_goOptional 0 = .ok (.aload_n 0, 1) := by decide +kernel
theorem dX7_goOptional_1 : decode cX7_goOptional 1 = .ok (.invokevirtual 152, 3) := by decide +kernel
theorem dX7_goOptional_4 : decode cX7_goOptional 4 = .ok (.istore_n 1, 1) := by decide +kernel
theorem dX7_goOptional_5 : decode cX7_goOptional 5 = .ok (.iconst 0, 1) := by decide +kernel
theorem dX7_goOptional_6 : decode cX7_goOptional 6 = .ok (.istore_n 2, 1) := by decide +kernel
theorem dX7_goOptional_7 : decode cX7_goOptional 7 = .ok (.iconst 1, 1) := by decide +kernel
theorem dX7_goOptional_8 : decode cX7_goOptional 8 = .ok (.istore_n 3, 1) := by decide +kernel
theorem dX7_goOptional_9 : decode cX7_goOptional 9 = .ok (.iload_n 2, 1) := by decide +kernel
theorem dX7_goOptional_10 : decode cX7_goOptional 10 = .ok (.iconst (-1), 1) := by decide +kernel
theorem dX7_goOptional_11 : decode cX7_goOptional 11 = .ok (.if_icmp .eq 79, 3) := by decide +kernel
theorem dX7_goOptional_14 : decode cX7_goOptional 14 = .ok (.iload_n 3, 1) := by decide +kernel
theorem dX7_goOptional_15 : decode cX7_goOptional 15 = .ok (.ifCond .eq 75, 3) := by decide +kernel
theorem dX7_goOptional_18 : decode cX7_goOptional 18 = .ok (.iconst (-1), 1) := by decide +kernel
theorem dX7_goOptional_19 : decode cX7_goOptional 19 = .ok (.istore_n 2, 1) := by decide +kernel
theorem dX7_goOptional_20 : decode cX7_goOptional 20 = .ok (.aload_n 0, 1) := by decide +kernel
theorem dX7_goOptional_21 : decode cX7_goOptional 21 = .ok (.getfield 87, 3) := by decide +kernel
theorem dX7_goOptional_24 : decode cX7_goOptional 24 = .ok (.iconst 1, 1) := by decide +kernel
theorem dX7_goOptional_25 : decode cX7_goOptional 25 = .ok (.isub, 1) := by decide +kernel
theorem dX7_goOptional_26 : decode cX7_goOptional 26 = .ok (.istore 4, 2) := by decide +kernel
theorem dX7_goOptional_28 : decode cX7_goOptional 28 = .ok (.iload 4, 2) := by decide +kernel
theorem dX7_goOptional_30 : decode cX7_goOptional 30 = .ok (.ifCond .lt 40, 3) := by decide +kernel
theorem dX7_goOptional_33 : decode cX7_goOptional 33 = .ok (.iload_n 1, 1) := by decide +kernel
theorem dX7_goOptional_34 : decode cX7_goOptional 34 = .ok (.iload 4, 2) := by decide +kernel
theorem dX7_goOptional_36 : decode cX7_goOptional 36 = .ok (.ishr, 1) := by decide +kernel
theorem dX7_goOptional_37 : decode cX7_goOptional 37 = .ok (.iconst 1, 1) := by decide +kernel
theorem dX7_goOptional_38 : decode cX7_goOptional 38 = .ok (.iand, 1) := by decide +kernel
theorem dX7_goOptional_39 : decode cX7_goOptional 39 = .ok (.ifCond .ne 23, 3) := by decide +kernel
theorem dX7_goOptional_62 : decode cX7_goOptional 62 = .ok (.iload_n 2, 1) := by decide +kernel
theorem dX7_goOptional_63 : decode cX7_goOptional 63 = .ok (.istore_n 2, 1) := by decide +kernel
theorem dX7_goOptional_64 : decode cX7_goOptional 64 = .ok (.iinc 4 (-1), 3) := by decide +kernel
theorem dX7_goOptional_67 : decode cX7_goOptional 67 = .ok (.goto (-39), 3) := by decide +kernel
theorem dX7_goOptional_42 : decode cX7_goOptional 42 = .ok (.iload_n 1, 1) := by decide +kernel
theorem dX7_goOptional_43 : decode cX7_goOptional 43 = .ok (.aload_n 0, 1) := by decide +kernel
theorem dX7_goOptional_44 : decode cX7_goOptional 44 = .ok (.getfield 19, 3) := by decide +kernel
theorem dX7_goOptional_47 : decode cX7_goOptional 47 = .ok (.iload 4, 2) := by decide +kernel
theorem dX7_goOptional_49 : decode cX7_goOptional 49 = .ok (.iaload, 1) := by decide +kernel
theorem dX7_goOptional_50 : decode cX7_goOptional 50 = .ok (.ishr, 1) := by decide +kernel
theorem dX7_goOptional_51 : decode cX7_goOptional 51 = .ok (.iconst 1, 1) := by decide +kernel
theorem dX7_goOptional_52 : decode cX7_goOptional 52 = .ok (.iand, 1) := by decide +kernel
theorem dX7_goOptional_53 : decode cX7_goOptional 53 = .ok (.iconst 1, 1) := by decide +kernel
theorem dX7_goOptional_54 : decode cX7_goOptional 54 = .ok (.if_icmp .ne 8, 3) := by decide +kernel
theorem dX7_goOptional_57 : decode cX7_goOptional 57 = .ok (.iload 4, 2) := by decide +kernel
theorem dX7_goOptional_59 : decode cX7_goOptional 59 = .ok (.goto 4, 3) := by decide +kernel
theorem dX7_goOptional_70 : decode cX7_goOptional 70 = .ok (.iload_n 2, 1) := by decide +kernel
theorem dX7_goOptional_71 : decode cX7_goOptional 71 = .ok (.iconst (-1), 1) := by decide +kernel
theorem dX7_goOptional_72 : decode cX7_goOptional 72 = .ok (.if_icmp .eq (-63), 3) := by decide +kernel
theorem dX7_goOptional_75 : decode cX7_goOptional 75 = .ok (.aload_n 0, 1) := by decide +kernel
theorem dX7_goOptional_76 : decode cX7_goOptional 76 = .ok (.iload_n 2, 1) := by decide +kernel
theorem dX7_goOptional_77 : decode cX7_goOptional 77 = .ok (.invokevirtual 204, 3) := by decide +kernel
theorem dX7_goOptional_80 : decode cX7_goOptional 80 = .ok (.istore_n 3, 1) := by decide +kernel
theorem dX7_goOptional_81 : decode cX7_goOptional 81 = .ok (.iload_n 1, 1) := by decide +kernel
theorem dX7_goOptional_82 : decode cX7_goOptional 82 = .ok (.iconst 1, 1) := by decide +kernel
theorem dX7_goOptional_83 : decode cX7_goOptional 83 = .ok (.iload_n 2, 1) := by decide +kernel
theorem dX7_goOptional_84 : decode cX7_goOptional 84 = .ok (.ishl, 1) := by decide +kernel
theorem dX7_goOptional_85 : decode cX7_goOptional 85 = .ok (.ior, 1) := by decide +kernel
theorem dX7_goOptional_86 : decode cX7_goOptional 86 = .ok (.istore_n 1, 1) := by decide +kernel
theorem dX7_goOptional_87 : decode cX7_goOptional 87 = .ok (.goto (-78), 3) := by decide +kernel
theorem dX7_goOptional_90 : decode cX7_goOptional 90 = .ok (.iload_n 3, 1) := by decide +kernel
theorem dX7_goOptional_91 : decode cX7_goOptional 91 = .ok (.ireturn, 1) := by decide +kernel
theorem dX7_plain_0 : decode cX7_plain 0 = .ok (.aload_n 0, 1) := by decide +kernel
theorem dX7_plain_1 : decode cX7_plain 1 = .ok (.invokevirtual 197, 3) := by decide +kernel
theorem dX7_plain_4 : decode cX7_plain 4 = .ok (.iconst 1, 1) := by decide +kernel
theorem dX7_plain_5 : decode cX7_plain 5 = .ok (.istore_n 1, 1) := by decide +kernel
theorem dX7_plain_6 : decode cX7_plain 6 = .ok (.iconst 0, 1) := by decide +kernel
theorem dX7_plain_7 : decode cX7_plain 7 = .ok (.istore_n 2, 1) := by decide +kernel
theorem dX7_plain_8 : decode cX7_plain 8 = .ok (.iload_n 2, 1) := by decide +kernel
theorem dX7_plain_9 : decode cX7_plain 9 = .ok (.aload_n 0, 1) := by decide +kernel
theorem dX7_plain_10 : decode cX7_plain 10 = .ok (.getfield 87, 3) := by decide +kernel
theorem dX7_plain_13 : decode cX7_plain 13 = .ok (.if_icmp .ge 35, 3) := by decide +kernel
theorem dX7_plain_16 : decode cX7_plain 16 = .ok (.iload_n 1, 1) := by decide +kernel
theorem dX7_plain_17 : decode cX7_plain 17 = .ok (.ifCond .eq 31, 3) := by decide +kernel
theorem dX7_plain_20 : decode cX7_plain 20 = .ok (.aload_n 0, 1) := by decide +kernel
theorem dX7_plain_21 : decode cX7_plain 21 = .ok (.iload_n 2, 1) := by decide +kernel
theorem dX7_plain_22 : decode cX7_plain 22 = .ok (.invokevirtual 107, 3) := by decide +kernel
theorem dX7_plain_25 : decode cX7_plain 25 = .ok (.ifCond .eq 11, 3) := by decide +kernel
theorem dX7_plain_36 : decode cX7_plain 36 = .ok (.iconst 1, 1) := by decide +kernel
theorem dX7_plain_37 : decode cX7_plain 37 = .ok (.goto 4, 3) := by decide +kernel
theorem dX7_plain_41 : decode cX7_plain 41 = .ok (.istore_n 1, 1) := by decide +kernel
theorem dX7_plain_42 : decode cX7_plain 42 = .ok (.iinc 2 1, 3) := by decide +kernel
theorem dX7_plain_45 : decode cX7_plain 45 = .ok (.goto (-37), 3) := by decide +kernel
theorem dX7_plain_28 : decode cX7_plain 28 = .ok (.aload_n 0, 1) := by decide +kernel
theorem dX7_plain_29 : decode cX7_plain 29 = .ok (.iload_n 2, 1) := by decide +kernel
theorem dX7_plain_30 : decode cX7_plain 30 = .ok (.invokevirtual 204, 3) := by decide +kernel
theorem dX7_plain_33 : decode cX7_plain 33 = .ok (.ifCond .eq 7, 3) := by decide +kernel
theorem dX7_plain_40 : decode cX7_plain 40 = .ok (.iconst 0, 1) := by decide +kernel
theorem dX7_plain_48 : decode cX7_plain 48 = .ok (.iload_n 1, 1) := by decide +kernel
theorem dX7_plain_49 : decode cX7_plain 49 = .ok (.ifCond .eq 14, 3) := by decide +kernel
theorem dX7_plain_52 : decode cX7_plain 52 = .ok (.aload_n 0, 1) := by decide +kernel
theorem dX7_plain_53 : decode cX7_plain 53 = .ok (.invokevirtual 213, 3) := by decide +kernel
theorem dX7_plain_56 : decode cX7_plain 56 = .ok (.ifCond .eq 7, 3) := by decide +kernel
theorem dX7_plain_59 : decode cX7_plain 59 = .ok (.iconst 1, 1) := by decide +kernel
theorem dX7_plain_60 : decode cX7_plain 60 = .ok (.goto 4, 3) := by decide +kernel
theorem dX7_plain_64 : decode cX7_plain 64 = .ok (.istore_n 1, 1) := by decide +kernel
theorem dX7_plain_65 : decode cX7_plain 65 = .ok (.iconst 0, 1) := by decide +kernel
theorem dX7_plain_66 : decode cX7_plain 66 = .ok (.istore_n 2, 1) := by decide +kernel
theorem dX7_plain_67 : decode cX7_plain 67 = .ok (.iload_n 2, 1) := by decide +kernel
theorem dX7_plain_68 : decode cX7_plain 68 = .ok (.aload_n 0, 1) := by decide +kernel
theorem dX7_plain_69 : decode cX7_plain 69 = .ok (.getfield 117, 3) := by decide +kernel
theorem dX7_plain_72 : decode cX7_plain 72 = .ok (.if_icmp .ge 18, 3) := by decide +kernel
theorem dX7_plain_75 : decode cX7_plain 75 = .ok (.iload_n 1, 1) := by decide +kernel
theorem dX7_plain_76 : decode cX7_plain 76 = .ok (.ifCond .eq 14, 3) := by decide +kernel
theorem dX7_plain_79 : decode cX7_plain 79 = .ok (.aload_n 0, 1) := by decide +kernel
theorem dX7_plain_80 : decode cX7_plain 80 = .ok (.iload_n 2, 1) := by decide +kernel
theorem dX7_plain_81 : decode cX7_plain 81 = .ok (.invokevirtual 207, 3) := by decide +kernel
theorem dX7_plain_84 : decode cX7_plain 84 = .ok (.iinc 2 1, 3) := by decide +kernel
theorem dX7_plain_87 : decode cX7_plain 87 = .ok (.goto (-20), 3) := by decide +kernel
theorem dX7_plain_90 : decode cX7_plain 90 = .ok (.iload_n 1, 1) := by decide +kernel
theorem dX7_plain_91 : decode cX7_plain 91 = .ok (.ifCond .eq 10, 3) := by decide +kernel
theorem dX7_plain_101 : decode cX7_plain 101 = .ok (.bipush (-4), 2) := by decide +kernel
theorem dX7_plain_103 : decode cX7_plain 103 = .ok (.ireturn, 1) := by decide +kernel
theorem dX7_plain_94 : decode cX7_plain 94 = .ok (.aload_n 0, 1) := by decide +kernel
theorem dX7_plain_95 : decode cX7_plain 95 = .ok (.getfield 181, 3) := by decide +kernel
theorem dX7_plain_98 : decode cX7_plain 98 = .ok (.goto 5, 3) := by decide +kernel
theorem dX7_plain_63 : decode cX7_plain 63 = .ok (.iconst 0, 1) := by decide +kernel
theorem dX7_isAlike_0 : decode cX7_isAlike 0 = .ok (.iconst 1, 1) := by decide +kernel
theorem dX7_isAlike_1 : decode cX7_isAlike 1 = .ok (.istore_n 3, 1) := by decide +kernel
theorem dX7_isAlike_2 : decode cX7_isAlike 2 = .ok (.iconst 0, 1) := by decide +kernel
theorem dX7_isAlike_3 : decode cX7_isAlike 3 = .ok (.istore 4, 2) := by decide +kernel
theorem dX7_isAlike_5 : decode cX7_isAlike 5 = .ok (.iload 4, 2) := by decide +kernel
theorem dX7_isAlike_7 : decode cX7_isAlike 7 = .ok (.bipush 8, 2) := by decide +kernel
theorem dX7_isAlike_9 : decode cX7_isAlike 9 = .ok (.if_icmp .ge 46, 3) := by decide +kernel
theorem dX7_isAlike_12 : decode cX7_isAlike 12 = .ok (.iload_n 3, 1) := by decide +kernel
theorem dX7_isAlike_13 : decode cX7_isAlike 13 = .ok (.ifCond .eq 34, 3) := by decide +kernel
theorem dX7_isAlike_47 : decode cX7_isAlike 47 = .ok (.iconst 0, 1) := by decide +kernel
theorem dX7_isAlike_48 : decode cX7_isAlike 48 = .ok (.istore_n 3, 1) := by decide +kernel
theorem dX7_isAlike_49 : decode cX7_isAlike 49 = .ok (.iinc 4 1, 3) := by decide +kernel
theorem dX7_isAlike_52 : decode cX7_isAlike 52 = .ok (.goto (-47), 3) := by decide +kernel
theorem dX7_isAlike_16 : decode cX7_isAlike 16 = .ok (.aload_n 0, 1) := by decide +kernel
theorem dX7_isAlike_17 : decode cX7_isAlike 17 = .ok (.getfield 69, 3) := by decide +kernel
theorem dX7_isAlike_20 : decode cX7_isAlike 20 = .ok (.bipush 8, 2) := by decide +kernel
theorem dX7_isAlike_22 : decode cX7_isAlike 22 = .ok (.iload_n 1, 1) := by decide +kernel
theorem dX7_isAlike_23 : decode cX7_isAlike 23 = .ok (.imul, 1) := by decide +kernel
theorem dX7_isAlike_24 : decode cX7_isAlike 24 = .ok (.iload 4, 2) := by decide +kernel
theorem dX7_isAlike_26 : decode cX7_isAlike 26 = .ok (.iadd, 1) := by decide +kernel
theorem dX7_isAlike_27 : decode cX7_isAlike 27 = .ok (.iaload, 1) := by decide +kernel
theorem dX7_isAlike_28 : decode cX7_isAlike 28 = .ok (.aload_n 0, 1) := by decide +kernel
theorem dX7_isAlike_29 : decode cX7_isAlike 29 = .ok (.getfield 81, 3) := by decide +kernel
theorem dX7_isAlike_32 : decode cX7_isAlike 32 = .ok (.bipush 8, 2) := by decide +kernel
theorem dX7_isAlike_34 : decode cX7_isAlike 34 = .ok (.iload_n 2, 1) := by decide +kernel
theorem dX7_isAlike_35 : decode cX7_isAlike 35 = .ok (.imul, 1) := by decide +kernel
theorem dX7_isAlike_36 : decode cX7_isAlike 36 = .ok (.iload 4, 2) := by decide +kernel
theorem dX7_isAlike_38 : decode cX7_isAlike 38 = .ok (.iadd, 1) := by decide +kernel
theorem dX7_isAlike_39 : decode cX7_isAlike 39 = .ok (.iaload, 1) := by decide +kernel
theorem dX7_isAlike_40 : decode cX7_isAlike 40 = .ok (.if_icmp .ne 7, 3) := by decide +kernel
theorem dX7_isAlike_43 : decode cX7_isAlike 43 = .ok (.iconst 1, 1) := by decide +kernel
theorem dX7_isAlike_44 : decode cX7_isAlike 44 = .ok (.goto 4, 3) := by decide +kernel
theorem dX7_isAlike_55 : decode cX7_isAlike 55 = .ok (.iload_n 3, 1) := by decide +kernel
theorem dX7_isAlike_56 : decode cX7_isAlike 56 = .ok (.ireturn, 1) := by decide +kernel
theorem dX7_keeps_0 : decode cX7_keeps 0 = .ok (.aload_n 0, 1) := by decide +kernel
theorem dX7_keeps_1 : decode cX7_keeps 1 = .ok (.invokevirtual 217, 3) := by decide +kernel
theorem dX7_keeps_4 : decode cX7_keeps 4 = .ok (.istore_n 1, 1) := by decide +kernel
theorem dX7_keeps_5 : decode cX7_keeps 5 = .ok (.aload_n 0, 1) := by decide +kernel
theorem dX7_keeps_6 : decode cX7_keeps 6 = .ok (.getfield 200, 3) := by decide +kernel
theorem dX7_keeps_9 : decode cX7_keeps 9 = .ok (.ifCond .eq 11, 3) := by decide +kernel
theorem dX7_keeps_20 : decode cX7_keeps 20 = .ok (.iconst 0, 1) := by decide +kernel
theorem dX7_keeps_21 : decode cX7_keeps 21 = .ok (.ireturn, 1) := by decide +kernel
theorem dX7_keeps_12 : decode cX7_keeps 12 = .ok (.iload_n 1, 1) := by decide +kernel
theorem dX7_keeps_13 : decode cX7_keeps 13 = .ok (.aload_n 0, 1) := by decide +kernel
theorem dX7_keeps_14 : decode cX7_keeps 14 = .ok (.getfield 210, 3) := by decide +kernel
theorem dX7_keeps_17 : decode cX7_keeps 17 = .ok (.if_icmp .eq 5, 3) := by decide +kernel
theorem dX7_keeps_22 : decode cX7_keeps 22 = .ok (.iconst 0, 1) := by decide +kernel
theorem dX7_keeps_23 : decode cX7_keeps 23 = .ok (.istore_n 2, 1) := by decide +kernel
theorem dX7_keeps_24 : decode cX7_keeps 24 = .ok (.iload_n 2, 1) := by decide +kernel
theorem dX7_keeps_25 : decode cX7_keeps 25 = .ok (.aload_n 0, 1) := by decide +kernel
theorem dX7_keeps_26 : decode cX7_keeps 26 = .ok (.getfield 210, 3) := by decide +kernel
theorem dX7_keeps_29 : decode cX7_keeps 29 = .ok (.if_icmp .ge 16, 3) := by decide +kernel
theorem dX7_keeps_32 : decode cX7_keeps 32 = .ok (.aload_n 0, 1) := by decide +kernel
theorem dX7_keeps_33 : decode cX7_keeps 33 = .ok (.getfield 84, 3) := by decide +kernel
theorem dX7_keeps_36 : decode cX7_keeps 36 = .ok (.iload_n 2, 1) := by decide +kernel
theorem dX7_keeps_37 : decode cX7_keeps 37 = .ok (.iconst 0, 1) := by decide +kernel
theorem dX7_keeps_38 : decode cX7_keeps 38 = .ok (.bastore, 1) := by decide +kernel
theorem dX7_keeps_39 : decode cX7_keeps 39 = .ok (.iinc 2 1, 3) := by decide +kernel
theorem dX7_keeps_42 : decode cX7_keeps 42 = .ok (.goto (-18), 3) := by decide +kernel
theorem dX7_keeps_45 : decode cX7_keeps 45 = .ok (.iconst 1, 1) := by decide +kernel
theorem dX7_keeps_46 : decode cX7_keeps 46 = .ok (.istore_n 2, 1) := by decide +kernel
theorem dX7_keeps_47 : decode cX7_keeps 47 = .ok (.iconst 0, 1) := by decide +kernel
theorem dX7_keeps_48 : decode cX7_keeps 48 = .ok (.istore_n 3, 1) := by decide +kernel
theorem dX7_keeps_49 : decode cX7_keeps 49 = .ok (.iload_n 3, 1) := by decide +kernel
theorem dX7_keeps_50 : decode cX7_keeps 50 = .ok (.iload_n 1, 1) := by decide +kernel
theorem dX7_keeps_51 : decode cX7_keeps 51 = .ok (.if_icmp .ge 78, 3) := by decide +kernel
theorem dX7_keeps_54 : decode cX7_keeps 54 = .ok (.iload_n 2, 1) := by decide +kernel
theorem dX7_keeps_55 : decode cX7_keeps 55 = .ok (.ifCond .eq 74, 3) := by decide +kernel
theorem dX7_keeps_58 : decode cX7_keeps 58 = .ok (.iconst 0, 1) := by decide +kernel
theorem dX7_keeps_59 : decode cX7_keeps 59 = .ok (.istore 4, 2) := by decide +kernel
theorem dX7_keeps_61 : decode cX7_keeps 61 = .ok (.iload 4, 2) := by decide +kernel
theorem dX7_keeps_63 : decode cX7_keeps 63 = .ok (.aload_n 0, 1) := by decide +kernel
theorem dX7_keeps_64 : decode cX7_keeps 64 = .ok (.getfield 210, 3) := by decide +kernel
theorem dX7_keeps_67 : decode cX7_keeps 67 = .ok (.if_icmp .ge 29, 3) := by decide +kernel
theorem dX7_keeps_70 : decode cX7_keeps 70 = .ok (.aload_n 0, 1) := by decide +kernel
theorem dX7_keeps_71 : decode cX7_keeps 71 = .ok (.getfield 84, 3) := by decide +kernel
theorem dX7_keeps_74 : decode cX7_keeps 74 = .ok (.iload 4, 2) := by decide +kernel
theorem dX7_keeps_76 : decode cX7_keeps 76 = .ok (.baload, 1) := by decide +kernel
theorem dX7_keeps_77 : decode cX7_keeps 77 = .ok (.ifCond .ne 13, 3) := by decide +kernel
theorem dX7_keeps_90 : decode cX7_keeps 90 = .ok (.iinc 4 1, 3) := by decide +kernel
theorem dX7_keeps_93 : decode cX7_keeps 93 = .ok (.goto (-32), 3) := by decide +kernel
theorem dX7_keeps_80 : decode cX7_keeps 80 = .ok (.aload_n 0, 1) := by decide +kernel
theorem dX7_keeps_81 : decode cX7_keeps 81 = .ok (.iload_n 3, 1) := by decide +kernel
theorem dX7_keeps_82 : decode cX7_keeps 82 = .ok (.iload 4, 2) := by decide +kernel
theorem dX7_keeps_84 : decode cX7_keeps 84 = .ok (.invokevirtual 220, 3) := by decide +kernel
theorem dX7_keeps_87 : decode cX7_keeps 87 = .ok (.ifCond .ne 9, 3) := by decide +kernel
theorem dX7_keeps_96 : decode cX7_keeps 96 = .ok (.iload 4, 2) := by decide +kernel
theorem dX7_keeps_98 : decode cX7_keeps 98 = .ok (.aload_n 0, 1) := by decide +kernel
theorem dX7_keeps_99 : decode cX7_keeps 99 = .ok (.getfield 210, 3) := by decide +kernel
theorem dX7_keeps_102 : decode cX7_keeps 102 = .ok (.if_icmp .ge 7, 3) := by decide +kernel
theorem dX7_keeps_109 : decode cX7_keeps 109 = .ok (.iconst 0, 1) := by decide +kernel
theorem dX7_keeps_105 : decode cX7_keeps 105 = .ok (.iconst 1, 1) := by decide +kernel
theorem dX7_keeps_106 : decode cX7_keeps 106 = .ok (.goto 4, 3) := by decide +kernel
theorem dX7_keeps_110 : decode cX7_keeps 110 = .ok (.istore_n 2, 1) := by decide +kernel
theorem dX7_keeps_111 : decode cX7_keeps 111 = .ok (.iload_n 2, 1) := by decide +kernel
theorem dX7_keeps_112 : decode cX7_keeps 112 = .ok (.ifCond .eq 11, 3) := by decide +kernel
theorem dX7_keeps_123 : decode cX7_keeps 123 = .ok (.iinc 3 1, 3) := by decide +kernel
theorem dX7_keeps_126 : decode cX7_keeps 126 = .ok (.goto (-77), 3) := by decide +kernel
theorem dX7_keeps_115 : decode cX7_keeps 115 = .ok (.aload_n 0, 1) := by decide +kernel
theorem dX7_keeps_116 : decode cX7_keeps 116 = .ok (.getfield 84, 3) := by decide +kernel
theorem dX7_keeps_119 : decode cX7_keeps 119 = .ok (.iload 4, 2) := by decide +kernel
theorem dX7_keeps_121 : decode cX7_keeps 121 = .ok (.iconst 1, 1) := by decide +kernel
theorem dX7_keeps_122 : decode cX7_keeps 122 = .ok (.bastore, 1) := by decide +kernel
theorem dX7_keeps_129 : decode cX7_keeps 129 = .ok (.iload_n 2, 1) := by decide +kernel
theorem dX7_keeps_130 : decode cX7_keeps 130 = .ok (.ireturn, 1) := by decide +kernel
