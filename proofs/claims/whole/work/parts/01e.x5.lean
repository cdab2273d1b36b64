theorem dX5_init_0 : decode cX5_init 0 = .ok (.aload_n 0, 1) := by decide +kernel
theorem dX5_init_1 : decode cX5_init 1 = .ok (.invokespecial 1, 3) := by decide +kernel
theorem dX5_init_4 : decode cX5_init 4 = .ok (.aload_n 0, 1) := by decide +kernel
theorem dX5_init_5 : decode cX5_init 5 = .ok (.sipush 326, 3) := by decide +kernel
theorem dX5_init_8 : decode cX5_init 8 = .ok (.newarray .int, 2) := by decide +kernel
theorem dX5_init_10 : decode cX5_init 10 = .ok (.putfield 7, 3) := by decide +kernel
theorem dX5_init_13 : decode cX5_init 13 = .ok (.aload_n 0, 1) := by decide +kernel
theorem dX5_init_14 : decode cX5_init 14 = .ok (.sipush 1956, 3) := by decide +kernel
theorem dX5_init_17 : decode cX5_init 17 = .ok (.newarray .int, 2) := by decide +kernel
theorem dX5_init_19 : decode cX5_init 19 = .ok (.putfield 13, 3) := by decide +kernel
theorem dX5_init_22 : decode cX5_init 22 = .ok (.aload_n 0, 1) := by decide +kernel
theorem dX5_init_23 : decode cX5_init 23 = .ok (.sipush 326, 3) := by decide +kernel
theorem dX5_init_26 : decode cX5_init 26 = .ok (.newarray .int, 2) := by decide +kernel
theorem dX5_init_28 : decode cX5_init 28 = .ok (.putfield 16, 3) := by decide +kernel
theorem dX5_init_31 : decode cX5_init 31 = .ok (.aload_n 0, 1) := by decide +kernel
theorem dX5_init_32 : decode cX5_init 32 = .ok (.bipush 60, 2) := by decide +kernel
theorem dX5_init_34 : decode cX5_init 34 = .ok (.newarray .int, 2) := by decide +kernel
theorem dX5_init_36 : decode cX5_init 36 = .ok (.putfield 19, 3) := by decide +kernel
theorem dX5_init_39 : decode cX5_init 39 = .ok (.aload_n 0, 1) := by decide +kernel
theorem dX5_init_40 : decode cX5_init 40 = .ok (.bipush 8, 2) := by decide +kernel
theorem dX5_init_42 : decode cX5_init 42 = .ok (.newarray .int, 2) := by decide +kernel
theorem dX5_init_44 : decode cX5_init 44 = .ok (.dup, 1) := by decide +kernel
theorem dX5_init_45 : decode cX5_init 45 = .ok (.iconst 0, 1) := by decide +kernel
theorem dX5_init_46 : decode cX5_init 46 = .ok (.iconst 1, 1) := by decide +kernel
theorem dX5_init_47 : decode cX5_init 47 = .ok (.iastore, 1) := by decide +kernel
theorem dX5_init_48 : decode cX5_init 48 = .ok (.dup, 1) := by decide +kernel
theorem dX5_init_49 : decode cX5_init 49 = .ok (.iconst 1, 1) := by decide +kernel
theorem dX5_init_50 : decode cX5_init 50 = .ok (.iconst 1, 1) := by decide +kernel
theorem dX5_init_51 : decode cX5_init 51 = .ok (.iastore, 1) := by decide +kernel
theorem dX5_init_52 : decode cX5_init 52 = .ok (.dup, 1) := by decide +kernel
theorem dX5_init_53 : decode cX5_init 53 = .ok (.iconst 2, 1) := by decide +kernel
theorem dX5_init_54 : decode cX5_init 54 = .ok (.iconst 0, 1) := by decide +kernel
theorem dX5_init_55 : decode cX5_init 55 = .ok (.iastore, 1) := by decide +kernel
theorem dX5_init_56 : decode cX5_init 56 = .ok (.dup, 1) := by decide +kernel
theorem dX5_init_57 : decode cX5_init 57 = .ok (.iconst 3, 1) := by decide +kernel
theorem dX5_init_58 : decode cX5_init 58 = .ok (.iconst (-1), 1) := by decide +kernel
theorem dX5_init_59 : decode cX5_init 59 = .ok (.iastore, 1) := by decide +kernel
theorem dX5_init_60 : decode cX5_init 60 = .ok (.dup, 1) := by decide +kernel
theorem dX5_init_61 : decode cX5_init 61 = .ok (.iconst 4, 1) := by decide +kernel
theorem dX5_init_62 : decode cX5_init 62 = .ok (.iconst (-1), 1) := by decide +kernel
theorem dX5_init_63 : decode cX5_init 63 = .ok (.iastore, 1) := by decide +kernel
theorem dX5_init_64 : decode cX5_init 64 = .ok (.dup, 1) := by decide +kernel
theorem dX5_init_65 : decode cX5_init 65 = .ok (.iconst 5, 1) := by decide +kernel
theorem dX5_init_66 : decode cX5_init 66 = .ok (.iconst (-1), 1) := by decide +kernel
theorem dX5_init_67 : decode cX5_init 67 = .ok (.iastore, 1) := by decide +kernel
theorem dX5_init_68 : decode cX5_init 68 = .ok (.dup, 1) := by decide +kernel
theorem dX5_init_69 : decode cX5_init 69 = .ok (.bipush 6, 2) := by decide +kernel
theorem dX5_init_71 : decode cX5_init 71 = .ok (.iconst 0, 1) := by decide +kernel
theorem dX5_init_72 : decode cX5_init 72 = .ok (.iastore, 1) := by decide +kernel
theorem dX5_init_73 : decode cX5_init 73 = .ok (.dup, 1) := by decide +kernel
theorem dX5_init_74 : decode cX5_init 74 = .ok (.bipush 7, 2) := by decide +kernel
theorem dX5_init_76 : decode cX5_init 76 = .ok (.iconst 1, 1) := by decide +kernel
theorem dX5_init_77 : decode cX5_init 77 = .ok (.iastore, 1) := by decide +kernel
theorem dX5_init_78 : decode cX5_init 78 = .ok (.putfield 22, 3) := by decide +kernel
theorem dX5_init_81 : decode cX5_init 81 = .ok (.aload_n 0, 1) := by decide +kernel
theorem dX5_init_82 : decode cX5_init 82 = .ok (.bipush 8, 2) := by decide +kernel
theorem dX5_init_84 : decode cX5_init 84 = .ok (.newarray .int, 2) := by decide +kernel
theorem dX5_init_86 : decode cX5_init 86 = .ok (.dup, 1) := by decide +kernel
theorem dX5_init_87 : decode cX5_init 87 = .ok (.iconst 0, 1) := by decide +kernel
theorem dX5_init_88 : decode cX5_init 88 = .ok (.iconst 0, 1) := by decide +kernel
theorem dX5_init_89 : decode cX5_init 89 = .ok (.iastore, 1) := by decide +kernel
theorem dX5_init_90 : decode cX5_init 90 = .ok (.dup, 1) := by decide +kernel
theorem dX5_init_91 : decode cX5_init 91 = .ok (.iconst 1, 1) := by decide +kernel
theorem dX5_init_92 : decode cX5_init 92 = .ok (.iconst 1, 1) := by decide +kernel
theorem dX5_init_93 : decode cX5_init 93 = .ok (.iastore, 1) := by decide +kernel
theorem dX5_init_94 : decode cX5_init 94 = .ok (.dup, 1) := by decide +kernel
theorem dX5_init_95 : decode cX5_init 95 = .ok (.iconst 2, 1) := by decide +kernel
theorem dX5_init_96 : decode cX5_init 96 = .ok (.iconst 1, 1) := by decide +kernel
theorem dX5_init_97 : decode cX5_init 97 = .ok (.iastore, 1) := by decide +kernel
theorem dX5_init_98 : decode cX5_init 98 = .ok (.dup, 1) := by decide +kernel
theorem dX5_init_99 : decode cX5_init 99 = .ok (.iconst 3, 1) := by decide +kernel
theorem dX5_init_100 : decode cX5_init 100 = .ok (.iconst 1, 1) := by decide +kernel
theorem dX5_init_101 : decode cX5_init 101 = .ok (.iastore, 1) := by decide +kernel
theorem dX5_init_102 : decode cX5_init 102 = .ok (.dup, 1) := by decide +kernel
theorem dX5_init_103 : decode cX5_init 103 = .ok (.iconst 4, 1) := by decide +kernel
theorem dX5_init_104 : decode cX5_init 104 = .ok (.iconst 0, 1) := by decide +kernel
theorem dX5_init_105 : decode cX5_init 105 = .ok (.iastore, 1) := by decide +kernel
theorem dX5_init_106 : decode cX5_init 106 = .ok (.dup, 1) := by decide +kernel
theorem dX5_init_107 : decode cX5_init 107 = .ok (.iconst 5, 1) := by decide +kernel
theorem dX5_init_108 : decode cX5_init 108 = .ok (.iconst (-1), 1) := by decide +kernel
theorem dX5_init_109 : decode cX5_init 109 = .ok (.iastore, 1) := by decide +kernel
theorem dX5_init_110 : decode cX5_init 110 = .ok (.dup, 1) := by decide +kernel
theorem dX5_init_111 : decode cX5_init 111 = .ok (.bipush 6, 2) := by decide +kernel
theorem dX5_init_113 : decode cX5_init 113 = .ok (.iconst (-1), 1) := by decide +kernel
theorem dX5_init_114 : decode cX5_init 114 = .ok (.iastore, 1) := by decide +kernel
theorem dX5_init_115 : decode cX5_init 115 = .ok (.dup, 1) := by decide +kernel
theorem dX5_init_116 : decode cX5_init 116 = .ok (.bipush 7, 2) := by decide +kernel
theorem dX5_init_118 : decode cX5_init 118 = .ok (.iconst (-1), 1) := by decide +kernel
theorem dX5_init_119 : decode cX5_init 119 = .ok (.iastore, 1) := by decide +kernel
theorem dX5_init_120 : decode cX5_init 120 = .ok (.putfield 25, 3) := by decide +kernel
theorem dX5_init_123 : decode cX5_init 123 = .ok (.aload_n 0, 1) := by decide +kernel
theorem dX5_init_124 : decode cX5_init 124 = .ok (.bipush 8, 2) := by decide +kernel
theorem dX5_init_126 : decode cX5_init 126 = .ok (.newarray .int, 2) := by decide +kernel
theorem dX5_init_128 : decode cX5_init 128 = .ok (.dup, 1) := by decide +kernel
theorem dX5_init_129 : decode cX5_init 129 = .ok (.iconst 0, 1) := by decide +kernel
theorem dX5_init_130 : decode cX5_init 130 = .ok (.iconst 1, 1) := by decide +kernel
theorem dX5_init_131 : decode cX5_init 131 = .ok (.iastore, 1) := by decide +kernel
theorem dX5_init_132 : decode cX5_init 132 = .ok (.dup, 1) := by decide +kernel
theorem dX5_init_133 : decode cX5_init 133 = .ok (.iconst 1, 1) := by decide +kernel
theorem dX5_init_134 : decode cX5_init 134 = .ok (.iconst 2, 1) := by decide +kernel
theorem dX5_init_135 : decode cX5_init 135 = .ok (.iastore, 1) := by decide +kernel
theorem dX5_init_136 : decode cX5_init 136 = .ok (.dup, 1) := by decide +kernel
theorem dX5_init_137 : decode cX5_init 137 = .ok (.iconst 2, 1) := by decide +kernel
theorem dX5_init_138 : decode cX5_init 138 = .ok (.iconst 3, 1) := by decide +kernel
theorem dX5_init_139 : decode cX5_init 139 = .ok (.iastore, 1) := by decide +kernel
theorem dX5_init_140 : decode cX5_init 140 = .ok (.dup, 1) := by decide +kernel
theorem dX5_init_141 : decode cX5_init 141 = .ok (.iconst 3, 1) := by decide +kernel
theorem dX5_init_142 : decode cX5_init 142 = .ok (.iconst 3, 1) := by decide +kernel
theorem dX5_init_143 : decode cX5_init 143 = .ok (.iastore, 1) := by decide +kernel
theorem dX5_init_144 : decode cX5_init 144 = .ok (.dup, 1) := by decide +kernel
theorem dX5_init_145 : decode cX5_init 145 = .ok (.iconst 4, 1) := by decide +kernel
theorem dX5_init_146 : decode cX5_init 146 = .ok (.iconst 2, 1) := by decide +kernel
theorem dX5_init_147 : decode cX5_init 147 = .ok (.iastore, 1) := by decide +kernel
theorem dX5_init_148 : decode cX5_init 148 = .ok (.dup, 1) := by decide +kernel
theorem dX5_init_149 : decode cX5_init 149 = .ok (.iconst 5, 1) := by decide +kernel
theorem dX5_init_150 : decode cX5_init 150 = .ok (.iconst 1, 1) := by decide +kernel
theorem dX5_init_151 : decode cX5_init 151 = .ok (.iastore, 1) := by decide +kernel
theorem dX5_init_152 : decode cX5_init 152 = .ok (.dup, 1) := by decide +kernel
theorem dX5_init_153 : decode cX5_init 153 = .ok (.bipush 6, 2) := by decide +kernel
theorem dX5_init_155 : decode cX5_init 155 = .ok (.iconst 1, 1) := by decide +kernel
theorem dX5_init_156 : decode cX5_init 156 = .ok (.iastore, 1) := by decide +kernel
theorem dX5_init_157 : decode cX5_init 157 = .ok (.dup, 1) := by decide +kernel
theorem dX5_init_158 : decode cX5_init 158 = .ok (.bipush 7, 2) := by decide +kernel
theorem dX5_init_160 : decode cX5_init 160 = .ok (.iconst 1, 1) := by decide +kernel
theorem dX5_init_161 : decode cX5_init 161 = .ok (.iastore, 1) := by decide +kernel
theorem dX5_init_162 : decode cX5_init 162 = .ok (.putfield 28, 3) := by decide +kernel
theorem dX5_init_165 : decode cX5_init 165 = .ok (.aload_n 0, 1) := by decide +kernel
theorem dX5_init_166 : decode cX5_init 166 = .ok (.sipush 512, 3) := by decide +kernel
theorem dX5_init_169 : decode cX5_init 169 = .ok (.newarray .int, 2) := by decide +kernel
theorem dX5_init_171 : decode cX5_init 171 = .ok (.putfield 31, 3) := by decide +kernel
theorem dX5_init_174 : decode cX5_init 174 = .ok (.aload_n 0, 1) := by decide +kernel
theorem dX5_init_175 : decode cX5_init 175 = .ok (.sipush 512, 3) := by decide +kernel
theorem dX5_init_178 : decode cX5_init 178 = .ok (.newarray .int, 2) := by decide +kernel
theorem dX5_init_180 : decode cX5_init 180 = .ok (.putfield 34, 3) := by decide +kernel
theorem dX5_init_183 : decode cX5_init 183 = .ok (.aload_n 0, 1) := by decide +kernel
theorem dX5_init_184 : decode cX5_init 184 = .ok (.sipush 512, 3) := by decide +kernel
theorem dX5_init_187 : decode cX5_init 187 = .ok (.newarray .int, 2) := by decide +kernel
theorem dX5_init_189 : decode cX5_init 189 = .ok (.putfield 37, 3) := by decide +kernel
theorem dX5_init_192 : decode cX5_init 192 = .ok (.aload_n 0, 1) := by decide +kernel
theorem dX5_init_193 : decode cX5_init 193 = .ok (.sipush 864, 3) := by decide +kernel
theorem dX5_init_196 : decode cX5_init 196 = .ok (.newarray .int, 2) := by decide +kernel
theorem dX5_init_198 : decode cX5_init 198 = .ok (.putfield 40, 3) := by decide +kernel
theorem dX5_init_201 : decode cX5_init 201 = .ok (.aload_n 0, 1) := by decide +kernel
theorem dX5_init_202 : decode cX5_init 202 = .ok (.sipush 512, 3) := by decide +kernel
theorem dX5_init_205 : decode cX5_init 205 = .ok (.newarray .boolean, 2) := by decide +kernel
theorem dX5_init_207 : decode cX5_init 207 = .ok (.putfield 43, 3) := by decide +kernel
theorem dX5_init_210 : decode cX5_init 210 = .ok (.aload_n 0, 1) := by decide +kernel
theorem dX5_init_211 : decode cX5_init 211 = .ok (.getfield 7, 3) := by decide +kernel
theorem dX5_init_214 : decode cX5_init 214 = .ok (.iconst 0, 1) := by decide +kernel
theorem dX5_init_215 : decode cX5_init 215 = .ok (.iconst 4, 1) := by decide +kernel
theorem dX5_init_216 : decode cX5_init 216 = .ok (.iastore, 1) := by decide +kernel
theorem dX5_init_217 : decode cX5_init 217 = .ok (.return_, 1) := by decide +kernel
theorem dX5_thrown_0 : decode cX5_thrown 0 = .ok (.aload_n 0, 1) := by decide +kernel
theorem dX5_thrown_1 : decode cX5_thrown 1 = .ok (.getfield 47, 3) := by decide +kernel
theorem dX5_thrown_4 : decode cX5_thrown 4 = .ok (.ireturn, 1) := by decide +kernel
theorem dX5_in_0 : decode cX5_in 0 = .ok (.iload_n 0, 1) := by decide +kernel
theorem dX5_in_1 : decode cX5_in 1 = .ok (.iload_n 1, 1) := by decide +kernel
theorem dX5_in_2 : decode cX5_in 2 = .ok (.if_icmp .lt 12, 3) := by decide +kernel
theorem dX5_in_5 : decode cX5_in 5 = .ok (.iload_n 0, 1) := by decide +kernel
theorem dX5_in_6 : decode cX5_in 6 = .ok (.iload_n 2, 1) := by decide +kernel
theorem dX5_in_7 : decode cX5_in 7 = .ok (.if_icmp .gt 7, 3) := by decide +kernel
theorem dX5_in_10 : decode cX5_in 10 = .ok (.iconst 1, 1) := by decide +kernel
theorem dX5_in_11 : decode cX5_in 11 = .ok (.goto 4, 3) := by decide +kernel
theorem dX5_in_14 : decode cX5_in 14 = .ok (.iconst 0, 1) := by decide +kernel
theorem dX5_in_15 : decode cX5_in 15 = .ok (.ireturn, 1) := by decide +kernel
set_option maxRecDepth 20000 in
theorem ggX5_isSquare_X5_in : GoodIn wsX5_isSquare wsX5_in := goodIn_r _ [5] (by decide +kernel) (by decide +kernel)
set_option maxRecDepth 20000 in
theorem gX5_isSquare_X5_in : GoodIn wsX5_isSquare (va_wsS RX5 51 yX5_in wsX5_in) := goodIn_app (goodIn_of _ (by decide +kernel)) ggX5_isSquare_X5_in
theorem dX5_isSquare_0 : decode cX5_isSquare 0 = .ok (.iload_n 1, 1) := by decide +kernel
theorem dX5_isSquare_1 : decode cX5_isSquare 1 = .ok (.iconst 0, 1) := by decide +kernel
theorem dX5_isSquare_2 : decode cX5_isSquare 2 = .ok (.aload_n 0, 1) := by decide +kernel
theorem dX5_isSquare_3 : decode cX5_isSquare 3 = .ok (.getfield 7, 3) := by decide +kernel
theorem dX5_isSquare_6 : decode cX5_isSquare 6 = .ok (.iconst 0, 1) := by decide +kernel
theorem dX5_isSquare_7 : decode cX5_isSquare 7 = .ok (.iaload, 1) := by decide +kernel
theorem dX5_isSquare_8 : decode cX5_isSquare 8 = .ok (.iconst 1, 1) := by decide +kernel
theorem dX5_isSquare_9 : decode cX5_isSquare 9 = .ok (.isub, 1) := by decide +kernel
theorem dX5_isSquare_10 : decode cX5_isSquare 10 = .ok (.invokestatic 51, 3) := by decide +kernel
theorem dX5_isSquare_13 : decode cX5_isSquare 13 = .ok (.ifCond .eq 23, 3) := by decide +kernel
theorem dX5_isSquare_16 : decode cX5_isSquare 16 = .ok (.iload_n 2, 1) := by decide +kernel
theorem dX5_isSquare_17 : decode cX5_isSquare 17 = .ok (.iconst 0, 1) := by decide +kernel
theorem dX5_isSquare_18 : decode cX5_isSquare 18 = .ok (.aload_n 0, 1) := by decide +kernel
theorem dX5_isSquare_19 : decode cX5_isSquare 19 = .ok (.getfield 7, 3) := by decide +kernel
theorem dX5_isSquare_22 : decode cX5_isSquare 22 = .ok (.iconst 0, 1) := by decide +kernel
theorem dX5_isSquare_23 : decode cX5_isSquare 23 = .ok (.iaload, 1) := by decide +kernel
theorem dX5_isSquare_24 : decode cX5_isSquare 24 = .ok (.iconst 1, 1) := by decide +kernel
theorem dX5_isSquare_25 : decode cX5_isSquare 25 = .ok (.isub, 1) := by decide +kernel
theorem dX5_isSquare_26 : decode cX5_isSquare 26 = .ok (.invokestatic 51, 3) := by decide +kernel
theorem dX5_isSquare_29 : decode cX5_isSquare 29 = .ok (.ifCond .eq 7, 3) := by decide +kernel
theorem dX5_isSquare_32 : decode cX5_isSquare 32 = .ok (.iconst 1, 1) := by decide +kernel
theorem dX5_isSquare_33 : decode cX5_isSquare 33 = .ok (.goto 4, 3) := by decide +kernel
theorem dX5_isSquare_36 : decode cX5_isSquare 36 = .ok (.iconst 0, 1) := by decide +kernel
theorem dX5_isSquare_37 : decode cX5_isSquare 37 = .ok (.ireturn, 1) := by decide +kernel
set_option maxRecDepth 20000 in
theorem ggX5_isColour_X5_in : GoodIn wsX5_isColour wsX5_in := goodIn_r _ [4] (by decide +kernel) (by decide +kernel)
set_option maxRecDepth 20000 in
theorem gX5_isColour_X5_in : GoodIn wsX5_isColour (va_wsS RX5 51 yX5_in wsX5_in) := goodIn_app (goodIn_of _ (by decide +kernel)) ggX5_isColour_X5_in
theorem dX5_isColour_0 : decode cX5_isColour 0 = .ok (.iload_n 0, 1) := by decide +kernel
theorem dX5_isColour_1 : decode cX5_isColour 1 = .ok (.iconst 0, 1) := by decide +kernel
theorem dX5_isColour_2 : decode cX5_isColour 2 = .ok (.iconst 3, 1) := by decide +kernel
theorem dX5_isColour_3 : decode cX5_isColour 3 = .ok (.invokestatic 51, 3) := by decide +kernel
theorem dX5_isColour_6 : decode cX5_isColour 6 = .ok (.ireturn, 1) := by decide +kernel
theorem dX5_height_0 : decode cX5_height 0 = .ok (.aload_n 0, 1) := by decide +kernel
theorem dX5_height_1 : decode cX5_height 1 = .ok (.getfield 7, 3) := by decide +kernel
theorem dX5_height_4 : decode cX5_height 4 = .ok (.iconst 2, 1) := by decide +kernel
theorem dX5_height_5 : decode cX5_height 5 = .ok (.bipush 6, 2) := by decide +kernel
theorem dX5_height_7 : decode cX5_height 7 = .ok (.iload_n 2, 1) := by decide +kernel
theorem dX5_height_8 : decode cX5_height 8 = .ok (.imul, 1) := by decide +kernel
theorem dX5_height_9 : decode cX5_height 9 = .ok (.iadd, 1) := by decide +kernel
theorem dX5_height_10 : decode cX5_height 10 = .ok (.iload_n 1, 1) := by decide +kernel
theorem dX5_height_11 : decode cX5_height 11 = .ok (.iadd, 1) := by decide +kernel
theorem dX5_height_12 : decode cX5_height 12 = .ok (.iaload, 1) := by decide +kernel
theorem dX5_height_13 : decode cX5_height 13 = .ok (.ireturn, 1) := by decide +kernel
theorem dX5_colour_0 : decode cX5_colour 0 = .ok (.aload_n 0, 1) := by decide +kernel
theorem dX5_colour_1 : decode cX5_colour 1 = .ok (.getfield 7, 3) := by decide +kernel
theorem dX5_colour_4 : decode cX5_colour 4 = .ok (.bipush 38, 2) := by decide +kernel
theorem dX5_colour_6 : decode cX5_colour 6 = .ok (.bipush 8, 2) := by decide +kernel
theorem dX5_colour_8 : decode cX5_colour 8 = .ok (.bipush 6, 2) := by decide +kernel
theorem dX5_colour_10 : decode cX5_colour 10 = .ok (.iload_n 2, 1) := by decide +kernel
theorem dX5_colour_11 : decode cX5_colour 11 = .ok (.imul, 1) := by decide +kernel
theorem dX5_colour_12 : decode cX5_colour 12 = .ok (.iload_n 1, 1) := by decide +kernel
theorem dX5_colour_13 : decode cX5_colour 13 = .ok (.iadd, 1) := by decide +kernel
theorem dX5_colour_14 : decode cX5_colour 14 = .ok (.imul, 1) := by decide +kernel
theorem dX5_colour_15 : decode cX5_colour 15 = .ok (.iadd, 1) := by decide +kernel
theorem dX5_colour_16 : decode cX5_colour 16 = .ok (.iload_n 3, 1) := by decide +kernel
theorem dX5_colour_17 : decode cX5_colour 17 = .ok (.iadd, 1) := by decide +kernel
theorem dX5_colour_18 : decode cX5_colour 18 = .ok (.iaload, 1) := by decide +kernel
theorem dX5_colour_19 : decode cX5_colour 19 = .ok (.ireturn, 1) := by decide +kernel
theorem dX5_save_0 : decode cX5_save 0 = .ok (.aload_n 0, 1) := by decide +kernel
theorem dX5_save_1 : decode cX5_save 1 = .ok (.getfield 55, 3) := by decide +kernel
theorem dX5_save_4 : decode cX5_save 4 = .ok (.bipush 6, 2) := by decide +kernel
theorem dX5_save_6 : decode cX5_save 6 = .ok (.if_icmp .ne 44, 3) := by decide +kernel
theorem dX5_save_9 : decode cX5_save 9 = .ok (.iconst 0, 1) := by decide +kernel
theorem dX5_save_10 : decode cX5_save 10 = .ok (.istore_n 1, 1) := by decide +kernel
theorem dX5_save_11 : decode cX5_save 11 = .ok (.iload_n 1, 1) := by decide +kernel
theorem dX5_save_12 : decode cX5_save 12 = .ok (.sipush 1630, 3) := by decide +kernel
theorem dX5_save_15 : decode cX5_save 15 = .ok (.if_icmp .ge 25, 3) := by decide +kernel
theorem dX5_save_18 : decode cX5_save 18 = .ok (.aload_n 0, 1) := by decide +kernel
theorem dX5_save_19 : decode cX5_save 19 = .ok (.getfield 13, 3) := by decide +kernel
theorem dX5_save_22 : decode cX5_save 22 = .ok (.iload_n 1, 1) := by decide +kernel
theorem dX5_save_23 : decode cX5_save 23 = .ok (.aload_n 0, 1) := by decide +kernel
theorem dX5_save_24 : decode cX5_save 24 = .ok (.getfield 13, 3) := by decide +kernel
theorem dX5_save_27 : decode cX5_save 27 = .ok (.iload_n 1, 1) := by decide +kernel
theorem dX5_save_28 : decode cX5_save 28 = .ok (.sipush 326, 3) := by decide +kernel
theorem dX5_save_31 : decode cX5_save 31 = .ok (.iadd, 1) := by decide +kernel
theorem dX5_save_32 : decode cX5_save 32 = .ok (.iaload, 1) := by decide +kernel
theorem dX5_save_33 : decode cX5_save 33 = .ok (.iastore, 1) := by decide +kernel
theorem dX5_save_34 : decode cX5_save 34 = .ok (.iinc 1 1, 3) := by decide +kernel
theorem dX5_save_37 : decode cX5_save 37 = .ok (.goto (-26), 3) := by decide +kernel
theorem dX5_save_40 : decode cX5_save 40 = .ok (.aload_n 0, 1) := by decide +kernel
theorem dX5_save_41 : decode cX5_save 41 = .ok (.dup, 1) := by decide +kernel
theorem dX5_save_42 : decode cX5_save 42 = .ok (.getfield 55, 3) := by decide +kernel
theorem dX5_save_45 : decode cX5_save 45 = .ok (.iconst 1, 1) := by decide +kernel
theorem dX5_save_46 : decode cX5_save 46 = .ok (.isub, 1) := by decide +kernel
theorem dX5_save_47 : decode cX5_save 47 = .ok (.putfield 55, 3) := by decide +kernel
theorem dX5_save_50 : decode cX5_save 50 = .ok (.iconst 0, 1) := by decide +kernel
theorem dX5_save_51 : decode cX5_save 51 = .ok (.istore_n 1, 1) := by decide +kernel
theorem dX5_save_52 : decode cX5_save 52 = .ok (.iload_n 1, 1) := by decide +kernel
theorem dX5_save_53 : decode cX5_save 53 = .ok (.sipush 326, 3) := by decide +kernel
theorem dX5_save_56 : decode cX5_save 56 = .ok (.if_icmp .ge 30, 3) := by decide +kernel
theorem dX5_save_59 : decode cX5_save 59 = .ok (.aload_n 0, 1) := by decide +kernel
theorem dX5_save_60 : decode cX5_save 60 = .ok (.getfield 13, 3) := by decide +kernel
theorem dX5_save_63 : decode cX5_save 63 = .ok (.aload_n 0, 1) := by decide +kernel
theorem dX5_save_64 : decode cX5_save 64 = .ok (.getfield 55, 3) := by decide +kernel
theorem dX5_save_67 : decode cX5_save 67 = .ok (.sipush 326, 3) := by decide +kernel
theorem dX5_save_70 : decode cX5_save 70 = .ok (.imul, 1) := by decide +kernel
theorem dX5_save_71 : decode cX5_save 71 = .ok (.iload_n 1, 1) := by decide +kernel
theorem dX5_save_72 : decode cX5_save 72 = .ok (.iadd, 1) := by decide +kernel
theorem dX5_save_73 : decode cX5_save 73 = .ok (.aload_n 0, 1) := by decide +kernel
theorem dX5_save_74 : decode cX5_save 74 = .ok (.getfield 7, 3) := by decide +kernel
theorem dX5_save_77 : decode cX5_save 77 = .ok (.iload_n 1, 1) := by decide +kernel
theorem dX5_save_78 : decode cX5_save 78 = .ok (.iaload, 1) := by decide +kernel
theorem dX5_save_79 : decode cX5_save 79 = .ok (.iastore, 1) := by decide +kernel
theorem dX5_save_80 : decode cX5_save 80 = .ok (.iinc 1 1, 3) := by decide +kernel
theorem dX5_save_83 : decode cX5_save 83 = .ok (.goto (-31), 3) := by decide +kernel
theorem dX5_save_86 : decode cX5_save 86 = .ok (.aload_n 0, 1) := by decide +kernel
theorem dX5_save_87 : decode cX5_save 87 = .ok (.dup, 1) := by decide +kernel
theorem dX5_save_88 : decode cX5_save 88 = .ok (.getfield 55, 3) := by decide +kernel
theorem dX5_save_91 : decode cX5_save 91 = .ok (.iconst 1, 1) := by decide +kernel
theorem dX5_save_92 : decode cX5_save 92 = .ok (.iadd, 1) := by decide +kernel
theorem dX5_save_93 : decode cX5_save 93 = .ok (.putfield 55, 3) := by decide +kernel
theorem dX5_save_96 : decode cX5_save 96 = .ok (.return_, 1) := by decide +kernel
theorem dX5_undo_0 : decode cX5_undo 0 = .ok (.aload_n 0, 1) := by decide +kernel
theorem dX5_undo_1 : decode cX5_undo 1 = .ok (.aload_n 0, 1) := by decide +kernel
theorem dX5_undo_2 : decode cX5_undo 2 = .ok (.getfield 55, 3) := by decide +kernel
theorem dX5_undo_5 : decode cX5_undo 5 = .ok (.ifCond .ne 7, 3) := by decide +kernel
theorem dX5_undo_8 : decode cX5_undo 8 = .ok (.iconst 1, 1) := by decide +kernel
theorem dX5_undo_9 : decode cX5_undo 9 = .ok (.goto 4, 3) := by decide +kernel
theorem dX5_undo_12 : decode cX5_undo 12 = .ok (.iconst 0, 1) := by decide +kernel
theorem dX5_undo_13 : decode cX5_undo 13 = .ok (.putfield 47, 3) := by decide +kernel
theorem dX5_undo_16 : decode cX5_undo 16 = .ok (.aload_n 0, 1) := by decide +kernel
theorem dX5_undo_17 : decode cX5_undo 17 = .ok (.getfield 47, 3) := by decide +kernel
theorem dX5_undo_20 : decode cX5_undo 20 = .ok (.ifCond .le 5, 3) := by decide +kernel
theorem dX5_undo_23 : decode cX5_undo 23 = .ok (.iconst 0, 1) := by decide +kernel
theorem dX5_undo_24 : decode cX5_undo 24 = .ok (.ireturn, 1) := by decide +kernel
theorem dX5_undo_25 : decode cX5_undo 25 = .ok (.aload_n 0, 1) := by decide +kernel
theorem dX5_undo_26 : decode cX5_undo 26 = .ok (.dup, 1) := by decide +kernel
theorem dX5_undo_27 : decode cX5_undo 27 = .ok (.getfield 55, 3) := by decide +kernel
theorem dX5_undo_30 : decode cX5_undo 30 = .ok (.iconst 1, 1) := by decide +kernel
theorem dX5_undo_31 : decode cX5_undo 31 = .ok (.isub, 1) := by decide +kernel
theorem dX5_undo_32 : decode cX5_undo 32 = .ok (.putfield 55, 3) := by decide +kernel
theorem dX5_undo_35 : decode cX5_undo 35 = .ok (.iconst 0, 1) := by decide +kernel
theorem dX5_undo_36 : decode cX5_undo 36 = .ok (.istore_n 1, 1) := by decide +kernel
theorem dX5_undo_37 : decode cX5_undo 37 = .ok (.iload_n 1, 1) := by decide +kernel
theorem dX5_undo_38 : decode cX5_undo 38 = .ok (.sipush 326, 3) := by decide +kernel
theorem dX5_undo_41 : decode cX5_undo 41 = .ok (.if_icmp .ge 30, 3) := by decide +kernel
theorem dX5_undo_44 : decode cX5_undo 44 = .ok (.aload_n 0, 1) := by decide +kernel
theorem dX5_undo_45 : decode cX5_undo 45 = .ok (.getfield 7, 3) := by decide +kernel
theorem dX5_undo_48 : decode cX5_undo 48 = .ok (.iload_n 1, 1) := by decide +kernel
theorem dX5_undo_49 : decode cX5_undo 49 = .ok (.aload_n 0, 1) := by decide +kernel
theorem dX5_undo_50 : decode cX5_undo 50 = .ok (.getfield 13, 3) := by decide +kernel
theorem dX5_undo_53 : decode cX5_undo 53 = .ok (.aload_n 0, 1) := by decide +kernel
theorem dX5_undo_54 : decode cX5_undo 54 = .ok (.getfield 55, 3) := by decide +kernel
theorem dX5_undo_57 : decode cX5_undo 57 = .ok (.sipush 326, 3) := by decide +kernel
theorem dX5_undo_60 : decode cX5_undo 60 = .ok (.imul, 1) := by decide +kernel
theorem dX5_undo_61 : decode cX5_undo 61 = .ok (.iload_n 1, 1) := by decide +kernel
theorem dX5_undo_62 : decode cX5_undo 62 = .ok (.iadd, 1) := by decide +kernel
theorem dX5_undo_63 : decode cX5_undo 63 = .ok (.iaload, 1) := by decide +kernel
theorem dX5_undo_64 : decode cX5_undo 64 = .ok (.iastore, 1) := by decide +kernel
theorem dX5_undo_65 : decode cX5_undo 65 = .ok (.iinc 1 1, 3) := by decide +kernel
theorem dX5_undo_68 : decode cX5_undo 68 = .ok (.goto (-31), 3) := by decide +kernel
theorem dX5_undo_71 : decode cX5_undo 71 = .ok (.aload_n 0, 1) := by decide +kernel
theorem dX5_undo_72 : decode cX5_undo 72 = .ok (.getfield 55, 3) := by decide +kernel
theorem dX5_undo_75 : decode cX5_undo 75 = .ok (.ireturn, 1) := by decide +kernel
theorem dX5_triangleAt_0 : decode cX5_triangleAt 0 = .ok (.iconst 2, 1) := by decide +kernel
theorem dX5_triangleAt_1 : decode cX5_triangleAt 1 = .ok (.bipush 16, 2) := by decide +kernel
theorem dX5_triangleAt_3 : decode cX5_triangleAt 3 = .ok (.iload_n 0, 1) := by decide +kernel
theorem dX5_triangleAt_4 : decode cX5_triangleAt 4 = .ok (.bipush 9, 2) := by decide +kernel
theorem dX5_triangleAt_6 : decode cX5_triangleAt 6 = .ok (.iadd, 1) := by decide +kernel
theorem dX5_triangleAt_7 : decode cX5_triangleAt 7 = .ok (.imul, 1) := by decide +kernel
theorem dX5_triangleAt_8 : decode cX5_triangleAt 8 = .ok (.iload_n 1, 1) := by decide +kernel
theorem dX5_triangleAt_9 : decode cX5_triangleAt 9 = .ok (.iadd, 1) := by decide +kernel
theorem dX5_triangleAt_10 : decode cX5_triangleAt 10 = .ok (.bipush 9, 2) := by decide +kernel
theorem dX5_triangleAt_12 : decode cX5_triangleAt 12 = .ok (.iadd, 1) := by decide +kernel
theorem dX5_triangleAt_13 : decode cX5_triangleAt 13 = .ok (.imul, 1) := by decide +kernel
theorem dX5_triangleAt_14 : decode cX5_triangleAt 14 = .ok (.iload_n 2, 1) := by decide +kernel
theorem dX5_triangleAt_15 : decode cX5_triangleAt 15 = .ok (.iadd, 1) := by decide +kernel
theorem dX5_triangleAt_16 : decode cX5_triangleAt 16 = .ok (.ireturn, 1) := by decide +kernel
set_option maxRecDepth 20000 in
theorem ggX5_cover_X5_triangleAt : GoodIn wsX5_cover wsX5_triangleAt := goodIn_r _ [7] (by decide +kernel) (by decide +kernel)
set_option maxRecDepth 20000 in
theorem gX5_cover_X5_triangleAt : GoodIn wsX5_cover (va_wsS RX5 58 yX5_triangleAt wsX5_triangleAt) := goodIn_app (goodIn_of _ (by decide +kernel)) ggX5_cover_X5_triangleAt
theorem dX5_cover_0 : decode cX5_cover 0 = .ok (.iload_n 1, 1) := by decide +kernel
theorem dX5_cover_1 : decode cX5_cover 1 = .ok (.iload_n 2, 1) := by decide +kernel
theorem dX5_cover_2 : decode cX5_cover 2 = .ok (.iload_n 3, 1) := by decide +kernel
theorem dX5_cover_3 : decode cX5_cover 3 = .ok (.invokestatic 58, 3) := by decide +kernel
theorem dX5_cover_6 : decode cX5_cover 6 = .ok (.istore 7, 2) := by decide +kernel
theorem dX5_cover_8 : decode cX5_cover 8 = .ok (.aload_n 0, 1) := by decide +kernel
theorem dX5_cover_9 : decode cX5_cover 9 = .ok (.getfield 31, 3) := by decide +kernel
theorem dX5_cover_12 : decode cX5_cover 12 = .ok (.iload 7, 2) := by decide +kernel
theorem dX5_cover_14 : decode cX5_cover 14 = .ok (.iaload, 1) := by decide +kernel
theorem dX5_cover_15 : decode cX5_cover 15 = .ok (.iconst (-1), 1) := by decide +kernel
theorem dX5_cover_16 : decode cX5_cover 16 = .ok (.if_icmp .eq 15, 3) := by decide +kernel
theorem dX5_cover_19 : decode cX5_cover 19 = .ok (.iload 6, 2) := by decide +kernel
theorem dX5_cover_21 : decode cX5_cover 21 = .ok (.aload_n 0, 1) := by decide +kernel
theorem dX5_cover_22 : decode cX5_cover 22 = .ok (.getfield 37, 3) := by decide +kernel
theorem dX5_cover_25 : decode cX5_cover 25 = .ok (.iload 7, 2) := by decide +kernel
theorem dX5_cover_27 : decode cX5_cover 27 = .ok (.iaload, 1) := by decide +kernel
theorem dX5_cover_28 : decode cX5_cover 28 = .ok (.if_icmp .le 30, 3) := by decide +kernel
theorem dX5_cover_31 : decode cX5_cover 31 = .ok (.aload_n 0, 1) := by decide +kernel
theorem dX5_cover_32 : decode cX5_cover 32 = .ok (.getfield 31, 3) := by decide +kernel
theorem dX5_cover_35 : decode cX5_cover 35 = .ok (.iload 7, 2) := by decide +kernel
theorem dX5_cover_37 : decode cX5_cover 37 = .ok (.iload 4, 2) := by decide +kernel
theorem dX5_cover_39 : decode cX5_cover 39 = .ok (.iastore, 1) := by decide +kernel
theorem dX5_cover_40 : decode cX5_cover 40 = .ok (.aload_n 0, 1) := by decide +kernel
theorem dX5_cover_41 : decode cX5_cover 41 = .ok (.getfield 34, 3) := by decide +kernel
theorem dX5_cover_44 : decode cX5_cover 44 = .ok (.iload 7, 2) := by decide +kernel
theorem dX5_cover_46 : decode cX5_cover 46 = .ok (.iload 5, 2) := by decide +kernel
theorem dX5_cover_48 : decode cX5_cover 48 = .ok (.iastore, 1) := by decide +kernel
theorem dX5_cover_49 : decode cX5_cover 49 = .ok (.aload_n 0, 1) := by decide +kernel
theorem dX5_cover_50 : decode cX5_cover 50 = .ok (.getfield 37, 3) := by decide +kernel
theorem dX5_cover_53 : decode cX5_cover 53 = .ok (.iload 7, 2) := by decide +kernel
theorem dX5_cover_55 : decode cX5_cover 55 = .ok (.iload 6, 2) := by decide +kernel
theorem dX5_cover_57 : decode cX5_cover 57 = .ok (.iastore, 1) := by decide +kernel
theorem dX5_cover_58 : decode cX5_cover 58 = .ok (.return_, 1) := by decide +kernel
set_option maxRecDepth 20000 in
theorem ggX5_coverBy_X5_cover : GoodIn wsX5_coverBy wsX5_cover := goodIn_r _ [5, 6, 7, 8, 9, 10, 4, 11, 12, 13, 14, 15, 16, 17, 18, 19, 20, 21, 22, 23, 24, 25, 26, 27, 28] (by decide +kernel) (by decide +kernel)
set_option maxRecDepth 20000 in
theorem gX5_coverBy_X5_cover : GoodIn wsX5_coverBy (wsV RX5 62 RX5 yX5_cover wsX5_cover) := goodIn_app (goodIn_of _ (by decide +kernel)) ggX5_coverBy_X5_cover
theorem dX5_coverBy_0 : decode cX5_coverBy 0 = .ok (.iload_n 1, 1) := by decide +kernel
theorem dX5_coverBy_1 : decode cX5_coverBy 1 = .ok (.iload_n 3, 1) := by decide +kernel
theorem dX5_coverBy_2 : decode cX5_coverBy 2 = .ok (.isub, 1) := by decide +kernel
theorem dX5_coverBy_3 : decode cX5_coverBy 3 = .ok (.istore 4, 2) := by decide +kernel
theorem dX5_coverBy_5 : decode cX5_coverBy 5 = .ok (.iload_n 2, 1) := by decide +kernel
theorem dX5_coverBy_6 : decode cX5_coverBy 6 = .ok (.iload_n 3, 1) := by decide +kernel
theorem dX5_coverBy_7 : decode cX5_coverBy 7 = .ok (.isub, 1) := by decide +kernel
theorem dX5_coverBy_8 : decode cX5_coverBy 8 = .ok (.istore 5, 2) := by decide +kernel
theorem dX5_coverBy_10 : decode cX5_coverBy 10 = .ok (.bipush 8, 2) := by decide +kernel
theorem dX5_coverBy_12 : decode cX5_coverBy 12 = .ok (.bipush 6, 2) := by decide +kernel
theorem dX5_coverBy_14 : decode cX5_coverBy 14 = .ok (.iload_n 2, 1) := by decide +kernel
theorem dX5_coverBy_15 : decode cX5_coverBy 15 = .ok (.imul, 1) := by decide +kernel
theorem dX5_coverBy_16 : decode cX5_coverBy 16 = .ok (.iload_n 1, 1) := by decide +kernel
theorem dX5_coverBy_17 : decode cX5_coverBy 17 = .ok (.iadd, 1) := by decide +kernel
theorem dX5_coverBy_18 : decode cX5_coverBy 18 = .ok (.imul, 1) := by decide +kernel
theorem dX5_coverBy_19 : decode cX5_coverBy 19 = .ok (.iload_n 3, 1) := by decide +kernel
theorem dX5_coverBy_20 : decode cX5_coverBy 20 = .ok (.iadd, 1) := by decide +kernel
theorem dX5_coverBy_21 : decode cX5_coverBy 21 = .ok (.istore 6, 2) := by decide +kernel
theorem dX5_coverBy_23 : decode cX5_coverBy 23 = .ok (.iload_n 1, 1) := by decide +kernel
theorem dX5_coverBy_24 : decode cX5_coverBy 24 = .ok (.iload_n 2, 1) := by decide +kernel
theorem dX5_coverBy_25 : decode cX5_coverBy 25 = .ok (.iadd, 1) := by decide +kernel
theorem dX5_coverBy_26 : decode cX5_coverBy 26 = .ok (.iload_n 3, 1) := by decide +kernel
theorem dX5_coverBy_27 : decode cX5_coverBy 27 = .ok (.iadd, 1) := by decide +kernel
theorem dX5_coverBy_28 : decode cX5_coverBy 28 = .ok (.istore 7, 2) := by decide +kernel
theorem dX5_coverBy_30 : decode cX5_coverBy 30 = .ok (.aload_n 0, 1) := by decide +kernel
theorem dX5_coverBy_31 : decode cX5_coverBy 31 = .ok (.iload 4, 2) := by decide +kernel
theorem dX5_coverBy_33 : decode cX5_coverBy 33 = .ok (.iconst 1, 1) := by decide +kernel
theorem dX5_coverBy_34 : decode cX5_coverBy 34 = .ok (.isub, 1) := by decide +kernel
theorem dX5_coverBy_35 : decode cX5_coverBy 35 = .ok (.iload 5, 2) := by decide +kernel
theorem dX5_coverBy_37 : decode cX5_coverBy 37 = .ok (.iconst 1, 1) := by decide +kernel
theorem dX5_coverBy_38 : decode cX5_coverBy 38 = .ok (.isub, 1) := by decide +kernel
theorem dX5_coverBy_39 : decode cX5_coverBy 39 = .ok (.iconst 0, 1) := by decide +kernel
theorem dX5_coverBy_40 : decode cX5_coverBy 40 = .ok (.iload 6, 2) := by decide +kernel
theorem dX5_coverBy_42 : decode cX5_coverBy 42 = .ok (.iconst 0, 1) := by decide +kernel
theorem dX5_coverBy_43 : decode cX5_coverBy 43 = .ok (.iload 7, 2) := by decide +kernel
theorem dX5_coverBy_45 : decode cX5_coverBy 45 = .ok (.invokevirtual 62, 3) := by decide +kernel
theorem dX5_coverBy_48 : decode cX5_coverBy 48 = .ok (.aload_n 0, 1) := by decide +kernel
theorem dX5_coverBy_49 : decode cX5_coverBy 49 = .ok (.iload 4, 2) := by decide +kernel
theorem dX5_coverBy_51 : decode cX5_coverBy 51 = .ok (.iconst 1, 1) := by decide +kernel
theorem dX5_coverBy_52 : decode cX5_coverBy 52 = .ok (.isub, 1) := by decide +kernel
theorem dX5_coverBy_53 : decode cX5_coverBy 53 = .ok (.iload 5, 2) := by decide +kernel
theorem dX5_coverBy_55 : decode cX5_coverBy 55 = .ok (.iconst 1, 1) := by decide +kernel
theorem dX5_coverBy_56 : decode cX5_coverBy 56 = .ok (.isub, 1) := by decide +kernel
theorem dX5_coverBy_57 : decode cX5_coverBy 57 = .ok (.iconst 1, 1) := by decide +kernel
theorem dX5_coverBy_58 : decode cX5_coverBy 58 = .ok (.iload 6, 2) := by decide +kernel
theorem dX5_coverBy_60 : decode cX5_coverBy 60 = .ok (.iconst 0, 1) := by decide +kernel
theorem dX5_coverBy_61 : decode cX5_coverBy 61 = .ok (.iload 7, 2) := by decide +kernel
theorem dX5_coverBy_63 : decode cX5_coverBy 63 = .ok (.invokevirtual 62, 3) := by decide +kernel
theorem dX5_coverBy_66 : decode cX5_coverBy 66 = .ok (.aload_n 0, 1) := by decide +kernel
theorem dX5_coverBy_67 : decode cX5_coverBy 67 = .ok (.iload 4, 2) := by decide +kernel
theorem dX5_coverBy_69 : decode cX5_coverBy 69 = .ok (.iload 5, 2) := by decide +kernel
theorem dX5_coverBy_71 : decode cX5_coverBy 71 = .ok (.iconst 1, 1) := by decide +kernel
theorem dX5_coverBy_72 : decode cX5_coverBy 72 = .ok (.isub, 1) := by decide +kernel
theorem dX5_coverBy_73 : decode cX5_coverBy 73 = .ok (.iconst 1, 1) := by decide +kernel
theorem dX5_coverBy_74 : decode cX5_coverBy 74 = .ok (.iload 6, 2) := by decide +kernel
theorem dX5_coverBy_76 : decode cX5_coverBy 76 = .ok (.iconst 1, 1) := by decide +kernel
theorem dX5_coverBy_77 : decode cX5_coverBy 77 = .ok (.iload 7, 2) := by decide +kernel
theorem dX5_coverBy_79 : decode cX5_coverBy 79 = .ok (.invokevirtual 62, 3) := by decide +kernel
theorem dX5_coverBy_82 : decode cX5_coverBy 82 = .ok (.aload_n 0, 1) := by decide +kernel
theorem dX5_coverBy_83 : decode cX5_coverBy 83 = .ok (.iload 4, 2) := by decide +kernel
theorem dX5_coverBy_85 : decode cX5_coverBy 85 = .ok (.iload 5, 2) := by decide +kernel
theorem dX5_coverBy_87 : decode cX5_coverBy 87 = .ok (.iconst 0, 1) := by decide +kernel
theorem dX5_coverBy_88 : decode cX5_coverBy 88 = .ok (.iload 6, 2) := by decide +kernel
theorem dX5_coverBy_90 : decode cX5_coverBy 90 = .ok (.iconst 1, 1) := by decide +kernel
theorem dX5_coverBy_91 : decode cX5_coverBy 91 = .ok (.iload 7, 2) := by decide +kernel
theorem dX5_coverBy_93 : decode cX5_coverBy 93 = .ok (.invokevirtual 62, 3) := by decide +kernel
theorem dX5_coverBy_96 : decode cX5_coverBy 96 = .ok (.aload_n 0, 1) := by decide +kernel
theorem dX5_coverBy_97 : decode cX5_coverBy 97 = .ok (.iload 4, 2) := by decide +kernel
theorem dX5_coverBy_99 : decode cX5_coverBy 99 = .ok (.iconst 1, 1) := by decide +kernel
theorem dX5_coverBy_100 : decode cX5_coverBy 100 = .ok (.isub, 1) := by decide +kernel
theorem dX5_coverBy_101 : decode cX5_coverBy 101 = .ok (.iload 5, 2) := by decide +kernel
theorem dX5_coverBy_103 : decode cX5_coverBy 103 = .ok (.iconst 0, 1) := by decide +kernel
theorem dX5_coverBy_104 : decode cX5_coverBy 104 = .ok (.iload 6, 2) := by decide +kernel
theorem dX5_coverBy_106 : decode cX5_coverBy 106 = .ok (.iconst 2, 1) := by decide +kernel
theorem dX5_coverBy_107 : decode cX5_coverBy 107 = .ok (.iload 7, 2) := by decide +kernel
theorem dX5_coverBy_109 : decode cX5_coverBy 109 = .ok (.invokevirtual 62, 3) := by decide +kernel
theorem dX5_coverBy_112 : decode cX5_coverBy 112 = .ok (.aload_n 0, 1) := by decide +kernel
theorem dX5_coverBy_113 : decode cX5_coverBy 113 = .ok (.iload 4, 2) := by decide +kernel
theorem dX5_coverBy_115 : decode cX5_coverBy 115 = .ok (.iload 5, 2) := by decide +kernel
theorem dX5_coverBy_117 : decode cX5_coverBy 117 = .ok (.iconst 1, 1) := by decide +kernel
theorem dX5_coverBy_118 : decode cX5_coverBy 118 = .ok (.iload 6, 2) := by decide +kernel
theorem dX5_coverBy_120 : decode cX5_coverBy 120 = .ok (.iconst 2, 1) := by decide +kernel
theorem dX5_coverBy_121 : decode cX5_coverBy 121 = .ok (.iload 7, 2) := by decide +kernel
theorem dX5_coverBy_123 : decode cX5_coverBy 123 = .ok (.invokevirtual 62, 3) := by decide +kernel
theorem dX5_coverBy_126 : decode cX5_coverBy 126 = .ok (.return_, 1) := by decide +kernel
set_option maxRecDepth 20000 in
theorem ggX5_layPicture_X5_height : GoodIn wsX5_layPicture wsX5_height := goodIn_r _ [9, 3, 22, 23, 24, 25, 26, 27, 28, 29, 30, 31, 32, 33, 34, 35, 36, 37, 38] (by decide +kernel) (by decide +kernel)
set_option maxRecDepth 20000 in
theorem gX5_layPicture_X5_height : GoodIn wsX5_layPicture (wsV RX5 66 RX5 yX5_height wsX5_height) := goodIn_app (goodIn_of _ (by decide +kernel)) ggX5_layPicture_X5_height
set_option maxRecDepth 20000 in
theorem ggX5_layPicture_X5_coverBy : GoodIn wsX5_layPicture wsX5_coverBy := goodIn_r _ [13, 14, 15, 16, 8, 17, 1, 18, 4, 19, 20, 21, 22, 23, 24, 25, 26, 27, 28, 29, 30, 31, 32, 33, 34, 35, 36, 37, 38] (by decide +kernel) (by decide +kernel)
set_option maxRecDepth 20000 in
theorem gX5_layPicture_X5_coverBy : GoodIn wsX5_layPicture (wsV RX5 70 RX5 yX5_coverBy wsX5_coverBy) := goodIn_app (goodIn_of _ (by decide +kernel)) ggX5_layPicture_X5_coverBy
theorem dX5_layPicture_0 : decode cX5_layPicture 0 = .ok (.iconst 0, 1) := by decide +kernel
theorem dX5_layPicture_1 : decode cX5_layPicture 1 = .ok (.istore_n 1, 1) := by decide +kernel
theorem dX5_layPicture_2 : decode cX5_layPicture 2 = .ok (.iload_n 1, 1) := by decide +kernel
theorem dX5_layPicture_3 : decode cX5_layPicture 3 = .ok (.sipush 512, 3) := by decide +kernel
theorem dX5_layPicture_6 : decode cX5_layPicture 6 = .ok (.if_icmp .ge 16, 3) := by decide +kernel
theorem dX5_layPicture_9 : decode cX5_layPicture 9 = .ok (.aload_n 0, 1) := by decide +kernel
theorem dX5_layPicture_10 : decode cX5_layPicture 10 = .ok (.getfield 31, 3) := by decide +kernel
theorem dX5_layPicture_13 : decode cX5_layPicture 13 = .ok (.iload_n 1, 1) := by decide +kernel
theorem dX5_layPicture_14 : decode cX5_layPicture 14 = .ok (.iconst (-1), 1) := by decide +kernel
theorem dX5_layPicture_15 : decode cX5_layPicture 15 = .ok (.iastore, 1) := by decide +kernel
theorem dX5_layPicture_16 : decode cX5_layPicture 16 = .ok (.iinc 1 1, 3) := by decide +kernel
theorem dX5_layPicture_19 : decode cX5_layPicture 19 = .ok (.goto (-17), 3) := by decide +kernel
theorem dX5_layPicture_22 : decode cX5_layPicture 22 = .ok (.iconst 0, 1) := by decide +kernel
theorem dX5_layPicture_23 : decode cX5_layPicture 23 = .ok (.istore_n 1, 1) := by decide +kernel
theorem dX5_layPicture_24 : decode cX5_layPicture 24 = .ok (.iload_n 1, 1) := by decide +kernel
theorem dX5_layPicture_25 : decode cX5_layPicture 25 = .ok (.sipush 864, 3) := by decide +kernel
theorem dX5_layPicture_28 : decode cX5_layPicture 28 = .ok (.if_icmp .ge 16, 3) := by decide +kernel
theorem dX5_layPicture_31 : decode cX5_layPicture 31 = .ok (.aload_n 0, 1) := by decide +kernel
theorem dX5_layPicture_32 : decode cX5_layPicture 32 = .ok (.getfield 40, 3) := by decide +kernel
theorem dX5_layPicture_35 : decode cX5_layPicture 35 = .ok (.iload_n 1, 1) := by decide +kernel
theorem dX5_layPicture_36 : decode cX5_layPicture 36 = .ok (.iconst 0, 1) := by decide +kernel
theorem dX5_layPicture_37 : decode cX5_layPicture 37 = .ok (.iastore, 1) := by decide +kernel
theorem dX5_layPicture_38 : decode cX5_layPicture 38 = .ok (.iinc 1 1, 3) := by decide +kernel
theorem dX5_layPicture_41 : decode cX5_layPicture 41 = .ok (.goto (-17), 3) := by decide +kernel
theorem dX5_layPicture_44 : decode cX5_layPicture 44 = .ok (.iconst 0, 1) := by decide +kernel
theorem dX5_layPicture_45 : decode cX5_layPicture 45 = .ok (.istore_n 1, 1) := by decide +kernel
theorem dX5_layPicture_46 : decode cX5_layPicture 46 = .ok (.iload_n 1, 1) := by decide +kernel
theorem dX5_layPicture_47 : decode cX5_layPicture 47 = .ok (.aload_n 0, 1) := by decide +kernel
theorem dX5_layPicture_48 : decode cX5_layPicture 48 = .ok (.getfield 7, 3) := by decide +kernel
theorem dX5_layPicture_51 : decode cX5_layPicture 51 = .ok (.iconst 0, 1) := by decide +kernel
theorem dX5_layPicture_52 : decode cX5_layPicture 52 = .ok (.iaload, 1) := by decide +kernel
theorem dX5_layPicture_53 : decode cX5_layPicture 53 = .ok (.if_icmp .ge 52, 3) := by decide +kernel
theorem dX5_layPicture_56 : decode cX5_layPicture 56 = .ok (.iconst 0, 1) := by decide +kernel
theorem dX5_layPicture_57 : decode cX5_layPicture 57 = .ok (.istore_n 2, 1) := by decide +kernel
theorem dX5_layPicture_58 : decode cX5_layPicture 58 = .ok (.iload_n 2, 1) := by decide +kernel
theorem dX5_layPicture_59 : decode cX5_layPicture 59 = .ok (.aload_n 0, 1) := by decide +kernel
theorem dX5_layPicture_60 : decode cX5_layPicture 60 = .ok (.getfield 7, 3) := by decide +kernel
theorem dX5_layPicture_63 : decode cX5_layPicture 63 = .ok (.iconst 0, 1) := by decide +kernel
theorem dX5_layPicture_64 : decode cX5_layPicture 64 = .ok (.iaload, 1) := by decide +kernel
theorem dX5_layPicture_65 : decode cX5_layPicture 65 = .ok (.if_icmp .ge 34, 3) := by decide +kernel
theorem dX5_layPicture_68 : decode cX5_layPicture 68 = .ok (.iconst 0, 1) := by decide +kernel
theorem dX5_layPicture_69 : decode cX5_layPicture 69 = .ok (.istore_n 3, 1) := by decide +kernel
theorem dX5_layPicture_70 : decode cX5_layPicture 70 = .ok (.iload_n 3, 1) := by decide +kernel
theorem dX5_layPicture_71 : decode cX5_layPicture 71 = .ok (.aload_n 0, 1) := by decide +kernel
theorem dX5_layPicture_72 : decode cX5_layPicture 72 = .ok (.iload_n 2, 1) := by decide +kernel
theorem dX5_layPicture_73 : decode cX5_layPicture 73 = .ok (.iload_n 1, 1) := by decide +kernel
theorem dX5_layPicture_74 : decode cX5_layPicture 74 = .ok (.invokevirtual 66, 3) := by decide +kernel
theorem dX5_layPicture_77 : decode cX5_layPicture 77 = .ok (.if_icmp .ge 16, 3) := by decide +kernel
theorem dX5_layPicture_80 : decode cX5_layPicture 80 = .ok (.aload_n 0, 1) := by decide +kernel
theorem dX5_layPicture_81 : decode cX5_layPicture 81 = .ok (.iload_n 2, 1) := by decide +kernel
theorem dX5_layPicture_82 : decode cX5_layPicture 82 = .ok (.iload_n 1, 1) := by decide +kernel
theorem dX5_layPicture_83 : decode cX5_layPicture 83 = .ok (.iload_n 3, 1) := by decide +kernel
theorem dX5_layPicture_84 : decode cX5_layPicture 84 = .ok (.invokevirtual 70, 3) := by decide +kernel
theorem dX5_layPicture_87 : decode cX5_layPicture 87 = .ok (.iinc 3 1, 3) := by decide +kernel
theorem dX5_layPicture_90 : decode cX5_layPicture 90 = .ok (.goto (-20), 3) := by decide +kernel
theorem dX5_layPicture_93 : decode cX5_layPicture 93 = .ok (.iinc 2 1, 3) := by decide +kernel
theorem dX5_layPicture_96 : decode cX5_layPicture 96 = .ok (.goto (-38), 3) := by decide +kernel
theorem dX5_layPicture_99 : decode cX5_layPicture 99 = .ok (.iinc 1 1, 3) := by decide +kernel
theorem dX5_layPicture_102 : decode cX5_layPicture 102 = .ok (.goto (-56), 3) := by decide +kernel
theorem dX5_layPicture_105 : decode cX5_layPicture 105 = .ok (.iconst 0, 1) := by decide +kernel
theorem dX5_layPicture_106 : decode cX5_layPicture 106 = .ok (.istore_n 1, 1) := by decide +kernel
theorem dX5_layPicture_107 : decode cX5_layPicture 107 = .ok (.iload_n 1, 1) := by decide +kernel
theorem dX5_layPicture_108 : decode cX5_layPicture 108 = .ok (.sipush 512, 3) := by decide +kernel
theorem dX5_layPicture_111 : decode cX5_layPicture 111 = .ok (.if_icmp .ge 43, 3) := by decide +kernel
theorem dX5_layPicture_114 : decode cX5_layPicture 114 = .ok (.aload_n 0, 1) := by decide +kernel
theorem dX5_layPicture_115 : decode cX5_layPicture 115 = .ok (.getfield 31, 3) := by decide +kernel
theorem dX5_layPicture_118 : decode cX5_layPicture 118 = .ok (.iload_n 1, 1) := by decide +kernel
theorem dX5_layPicture_119 : decode cX5_layPicture 119 = .ok (.iaload, 1) := by decide +kernel
theorem dX5_layPicture_120 : decode cX5_layPicture 120 = .ok (.iconst (-1), 1) := by decide +kernel
theorem dX5_layPicture_121 : decode cX5_layPicture 121 = .ok (.if_icmp .eq 27, 3) := by decide +kernel
theorem dX5_layPicture_124 : decode cX5_layPicture 124 = .ok (.aload_n 0, 1) := by decide +kernel
theorem dX5_layPicture_125 : decode cX5_layPicture 125 = .ok (.getfield 40, 3) := by decide +kernel
theorem dX5_layPicture_128 : decode cX5_layPicture 128 = .ok (.iconst 3, 1) := by decide +kernel
theorem dX5_layPicture_129 : decode cX5_layPicture 129 = .ok (.aload_n 0, 1) := by decide +kernel
theorem dX5_layPicture_130 : decode cX5_layPicture 130 = .ok (.getfield 31, 3) := by decide +kernel
theorem dX5_layPicture_133 : decode cX5_layPicture 133 = .ok (.iload_n 1, 1) := by decide +kernel
theorem dX5_layPicture_134 : decode cX5_layPicture 134 = .ok (.iaload, 1) := by decide +kernel
theorem dX5_layPicture_135 : decode cX5_layPicture 135 = .ok (.imul, 1) := by decide +kernel
theorem dX5_layPicture_136 : decode cX5_layPicture 136 = .ok (.aload_n 0, 1) := by decide +kernel
theorem dX5_layPicture_137 : decode cX5_layPicture 137 = .ok (.getfield 34, 3) := by decide +kernel
theorem dX5_layPicture_140 : decode cX5_layPicture 140 = .ok (.iload_n 1, 1) := by decide +kernel
theorem dX5_layPicture_141 : decode cX5_layPicture 141 = .ok (.iaload, 1) := by decide +kernel
theorem dX5_layPicture_142 : decode cX5_layPicture 142 = .ok (.iadd, 1) := by decide +kernel
theorem dX5_layPicture_143 : decode cX5_layPicture 143 = .ok (.dup2, 1) := by decide +kernel
theorem dX5_layPicture_144 : decode cX5_layPicture 144 = .ok (.iaload, 1) := by decide +kernel
theorem dX5_layPicture_145 : decode cX5_layPicture 145 = .ok (.iconst 1, 1) := by decide +kernel
theorem dX5_layPicture_146 : decode cX5_layPicture 146 = .ok (.iadd, 1) := by decide +kernel
theorem dX5_layPicture_147 : decode cX5_layPicture 147 = .ok (.iastore, 1) := by decide +kernel
theorem dX5_layPicture_148 : decode cX5_layPicture 148 = .ok (.iinc 1 1, 3) := by decide +kernel
theorem dX5_layPicture_151 : decode cX5_layPicture 151 = .ok (.goto (-44), 3) := by decide +kernel
theorem dX5_layPicture_154 : decode cX5_layPicture 154 = .ok (.return_, 1) := by decide +kernel
theorem dX5_isSeen_0 : decode cX5_isSeen 0 = .ok (.aload_n 0, 1) := by decide +kernel
theorem dX5_isSeen_1 : decode cX5_isSeen 1 = .ok (.getfield 40, 3) := by decide +kernel
theorem dX5_isSeen_4 : decode cX5_isSeen 4 = .ok (.iconst 3, 1) := by decide +kernel
theorem dX5_isSeen_5 : decode cX5_isSeen 5 = .ok (.iload_n 1, 1) := by decide +kernel
theorem dX5_isSeen_6 : decode cX5_isSeen 6 = .ok (.imul, 1) := by decide +kernel
theorem dX5_isSeen_7 : decode cX5_isSeen 7 = .ok (.iaload, 1) := by decide +kernel
theorem dX5_isSeen_8 : decode cX5_isSeen 8 = .ok (.aload_n 0, 1) := by decide +kernel
theorem dX5_isSeen_9 : decode cX5_isSeen 9 = .ok (.getfield 40, 3) := by decide +kernel
theorem dX5_isSeen_12 : decode cX5_isSeen 12 = .ok (.iconst 3, 1) := by decide +kernel
theorem dX5_isSeen_13 : decode cX5_isSeen 13 = .ok (.iload_n 1, 1) := by decide +kernel
theorem dX5_isSeen_14 : decode cX5_isSeen 14 = .ok (.imul, 1) := by decide +kernel
theorem dX5_isSeen_15 : decode cX5_isSeen 15 = .ok (.iconst 1, 1) := by decide +kernel
theorem dX5_isSeen_16 : decode cX5_isSeen 16 = .ok (.iadd, 1) := by decide +kernel
theorem dX5_isSeen_17 : decode cX5_isSeen 17 = .ok (.iaload, 1) := by decide +kernel
theorem dX5_isSeen_18 : decode cX5_isSeen 18 = .ok (.iadd, 1) := by decide +kernel
theorem dX5_isSeen_19 : decode cX5_isSeen 19 = .ok (.aload_n 0, 1) := by decide +kernel
theorem dX5_isSeen_20 : decode cX5_isSeen 20 = .ok (.getfield 40, 3) := by decide +kernel
theorem dX5_isSeen_23 : decode cX5_isSeen 23 = .ok (.iconst 3, 1) := by decide +kernel
theorem dX5_isSeen_24 : decode cX5_isSeen 24 = .ok (.iload_n 1, 1) := by decide +kernel
theorem dX5_isSeen_25 : decode cX5_isSeen 25 = .ok (.imul, 1) := by decide +kernel
theorem dX5_isSeen_26 : decode cX5_isSeen 26 = .ok (.iconst 2, 1) := by decide +kernel
theorem dX5_isSeen_27 : decode cX5_isSeen 27 = .ok (.iadd, 1) := by decide +kernel
theorem dX5_isSeen_28 : decode cX5_isSeen 28 = .ok (.iaload, 1) := by decide +kernel
theorem dX5_isSeen_29 : decode cX5_isSeen 29 = .ok (.iadd, 1) := by decide +kernel
theorem dX5_isSeen_30 : decode cX5_isSeen 30 = .ok (.ifCond .le 7, 3) := by decide +kernel
theorem dX5_isSeen_33 : decode cX5_isSeen 33 = .ok (.iconst 1, 1) := by decide +kernel
theorem dX5_isSeen_34 : decode cX5_isSeen 34 = .ok (.goto 4, 3) := by decide +kernel
theorem dX5_isSeen_37 : decode cX5_isSeen 37 = .ok (.iconst 0, 1) := by decide +kernel
theorem dX5_isSeen_38 : decode cX5_isSeen 38 = .ok (.ireturn, 1) := by decide +kernel
set_option maxRecDepth 20000 in
theorem ggX5_seenOf_X5_height : GoodIn wsX5_seenOf wsX5_height := goodIn_r _ [5, 6, 12, 13, 14, 15, 16, 17, 18, 19, 20, 21, 22, 23, 24, 25, 26, 27, 28] (by decide +kernel) (by decide +kernel)
set_option maxRecDepth 20000 in
theorem gX5_seenOf_X5_height : GoodIn wsX5_seenOf (wsV RX5 66 RX5 yX5_height wsX5_height) := goodIn_app (goodIn_of _ (by decide +kernel)) ggX5_seenOf_X5_height
set_option maxRecDepth 20000 in
theorem ggX5_seenOf_X5_isSeen : GoodIn wsX5_seenOf wsX5_isSeen := goodIn_r _ [10, 11, 12, 13, 14, 15, 16, 17, 18, 19, 20, 21, 22, 23, 24, 25, 26, 27, 28] (by decide +kernel) (by decide +kernel)
set_option maxRecDepth 20000 in
theorem gX5_seenOf_X5_isSeen : GoodIn wsX5_seenOf (wsV RX5 74 RX5 yX5_isSeen wsX5_isSeen) := goodIn_app (goodIn_of _ (by decide +kernel)) ggX5_seenOf_X5_isSeen
theorem dX5_seenOf_0 : decode cX5_seenOf 0 = .ok (.iconst 0, 1) := by decide +kernel
theorem dX5_seenOf_1 : decode cX5_seenOf 1 = .ok (.istore_n 3, 1) := by decide +kernel
theorem dX5_seenOf_2 : decode cX5_seenOf 2 = .ok (.iconst 0, 1) := by decide +kernel
theorem dX5_seenOf_3 : decode cX5_seenOf 3 = .ok (.istore 4, 2) := by decide +kernel
theorem dX5_seenOf_5 : decode cX5_seenOf 5 = .ok (.iload 4, 2) := by decide +kernel
theorem dX5_seenOf_7 : decode cX5_seenOf 7 = .ok (.aload_n 0, 1) := by decide +kernel
theorem dX5_seenOf_8 : decode cX5_seenOf 8 = .ok (.iload_n 1, 1) := by decide +kernel
theorem dX5_seenOf_9 : decode cX5_seenOf 9 = .ok (.iload_n 2, 1) := by decide +kernel
theorem dX5_seenOf_10 : decode cX5_seenOf 10 = .ok (.invokevirtual 66, 3) := by decide +kernel
theorem dX5_seenOf_13 : decode cX5_seenOf 13 = .ok (.if_icmp .ge 36, 3) := by decide +kernel
theorem dX5_seenOf_16 : decode cX5_seenOf 16 = .ok (.iload_n 3, 1) := by decide +kernel
theorem dX5_seenOf_17 : decode cX5_seenOf 17 = .ok (.aload_n 0, 1) := by decide +kernel
theorem dX5_seenOf_18 : decode cX5_seenOf 18 = .ok (.bipush 8, 2) := by decide +kernel
theorem dX5_seenOf_20 : decode cX5_seenOf 20 = .ok (.bipush 6, 2) := by decide +kernel
theorem dX5_seenOf_22 : decode cX5_seenOf 22 = .ok (.iload_n 2, 1) := by decide +kernel
theorem dX5_seenOf_23 : decode cX5_seenOf 23 = .ok (.imul, 1) := by decide +kernel
theorem dX5_seenOf_24 : decode cX5_seenOf 24 = .ok (.iload_n 1, 1) := by decide +kernel
theorem dX5_seenOf_25 : decode cX5_seenOf 25 = .ok (.iadd, 1) := by decide +kernel
theorem dX5_seenOf_26 : decode cX5_seenOf 26 = .ok (.imul, 1) := by decide +kernel
theorem dX5_seenOf_27 : decode cX5_seenOf 27 = .ok (.iload 4, 2) := by decide +kernel
theorem dX5_seenOf_29 : decode cX5_seenOf 29 = .ok (.iadd, 1) := by decide +kernel
theorem dX5_seenOf_30 : decode cX5_seenOf 30 = .ok (.invokevirtual 74, 3) := by decide +kernel
theorem dX5_seenOf_33 : decode cX5_seenOf 33 = .ok (.ifCond .eq 7, 3) := by decide +kernel
theorem dX5_seenOf_36 : decode cX5_seenOf 36 = .ok (.iconst 1, 1) := by decide +kernel
theorem dX5_seenOf_37 : decode cX5_seenOf 37 = .ok (.goto 4, 3) := by decide +kernel
theorem dX5_seenOf_40 : decode cX5_seenOf 40 = .ok (.iconst 0, 1) := by decide +kernel
theorem dX5_seenOf_41 : decode cX5_seenOf 41 = .ok (.iadd, 1) := by decide +kernel
theorem dX5_seenOf_42 : decode cX5_seenOf 42 = .ok (.istore_n 3, 1) := by decide +kernel
theorem dX5_seenOf_43 : decode cX5_seenOf 43 = .ok (.iinc 4 1, 3) := by decide +kernel
theorem dX5_seenOf_46 : decode cX5_seenOf 46 = .ok (.goto (-41), 3) := by decide +kernel
theorem dX5_seenOf_49 : decode cX5_seenOf 49 = .ok (.iload_n 3, 1) := by decide +kernel
theorem dX5_seenOf_50 : decode cX5_seenOf 50 = .ok (.ireturn, 1) := by decide +kernel
set_option maxRecDepth 20000 in
theorem ggX5_seenMany_X5_isSeen : GoodIn wsX5_seenMany wsX5_isSeen := goodIn_r _ [5, 6, 7, 8, 9, 10, 11, 12, 13, 14, 15, 16, 17, 18, 19, 20, 21, 22, 23] (by decide +kernel) (by decide +kernel)
set_option maxRecDepth 20000 in
theorem gX5_seenMany_X5_isSeen : GoodIn wsX5_seenMany (wsV RX5 74 RX5 yX5_isSeen wsX5_isSeen) := goodIn_app (goodIn_of _ (by decide +kernel)) ggX5_seenMany_X5_isSeen
theorem dX5_seenMany_0 : decode cX5_seenMany 0 = .ok (.iconst 0, 1) := by decide +kernel
theorem dX5_seenMany_1 : decode cX5_seenMany 1 = .ok (.istore_n 1, 1) := by decide +kernel
theorem dX5_seenMany_2 : decode cX5_seenMany 2 = .ok (.iconst 0, 1) := by decide +kernel
theorem dX5_seenMany_3 : decode cX5_seenMany 3 = .ok (.istore_n 2, 1) := by decide +kernel
theorem dX5_seenMany_4 : decode cX5_seenMany 4 = .ok (.iload_n 2, 1) := by decide +kernel
theorem dX5_seenMany_5 : decode cX5_seenMany 5 = .ok (.sipush 288, 3) := by decide +kernel
theorem dX5_seenMany_8 : decode cX5_seenMany 8 = .ok (.if_icmp .ge 25, 3) := by decide +kernel
theorem dX5_seenMany_11 : decode cX5_seenMany 11 = .ok (.iload_n 1, 1) := by decide +kernel
theorem dX5_seenMany_12 : decode cX5_seenMany 12 = .ok (.aload_n 0, 1) := by decide +kernel
theorem dX5_seenMany_13 : decode cX5_seenMany 13 = .ok (.iload_n 2, 1) := by decide +kernel
theorem dX5_seenMany_14 : decode cX5_seenMany 14 = .ok (.invokevirtual 74, 3) := by decide +kernel
theorem dX5_seenMany_17 : decode cX5_seenMany 17 = .ok (.ifCond .eq 7, 3) := by decide +kernel
theorem dX5_seenMany_20 : decode cX5_seenMany 20 = .ok (.iconst 1, 1) := by decide +kernel
theorem dX5_seenMany_21 : decode cX5_seenMany 21 = .ok (.goto 4, 3) := by decide +kernel
theorem dX5_seenMany_24 : decode cX5_seenMany 24 = .ok (.iconst 0, 1) := by decide +kernel
theorem dX5_seenMany_25 : decode cX5_seenMany 25 = .ok (.iadd, 1) := by decide +kernel
theorem dX5_seenMany_26 : decode cX5_seenMany 26 = .ok (.istore_n 1, 1) := by decide +kernel
theorem dX5_seenMany_27 : decode cX5_seenMany 27 = .ok (.iinc 2 1, 3) := by decide +kernel
theorem dX5_seenMany_30 : decode cX5_seenMany 30 = .ok (.goto (-26), 3) := by decide +kernel
theorem dX5_seenMany_33 : decode cX5_seenMany 33 = .ok (.iload_n 1, 1) := by decide +kernel
theorem dX5_seenMany_34 : decode cX5_seenMany 34 = .ok (.ireturn, 1) := by decide +kernel
set_option maxRecDepth 20000 in
theorem ggX5_seenNow_X5_layPicture : GoodIn wsX5_seenNow wsX5_layPicture := goodIn_r _ [5, 6, 7, 8, 9, 10, 11, 12, 4, 13, 14, 15, 16, 17, 18, 19, 20, 21, 22, 23, 24, 25, 34, 35, 36, 37, 38, 39, 40, 41, 42, 43, 44, 45, 46, 47, 48, 49, 50] (by decide +kernel) (by decide +kernel)
set_option maxRecDepth 20000 in
theorem gX5_seenNow_X5_layPicture : GoodIn wsX5_seenNow (wsV RX5 78 RX5 yX5_layPicture wsX5_layPicture) := goodIn_app (goodIn_of _ (by decide +kernel)) ggX5_seenNow_X5_layPicture
set_option maxRecDepth 20000 in
theorem ggX5_seenNow_X5_seenMany : GoodIn wsX5_seenNow wsX5_seenMany := goodIn_r _ [29, 30, 31, 32, 4, 33, 7, 34, 35, 36, 37, 38, 39, 40, 41, 42, 43, 44, 45, 46, 47, 48, 49, 50] (by decide +kernel) (by decide +kernel)
set_option maxRecDepth 20000 in
theorem gX5_seenNow_X5_seenMany : GoodIn wsX5_seenNow (wsV RX5 81 RX5 yX5_seenMany wsX5_seenMany) := goodIn_app (goodIn_of _ (by decide +kernel)) ggX5_seenNow_X5_seenMany
theorem dX5_seenNow_0 : decode cX5_seenNow 0 = .ok (.aload_n 0, 1) := by decide +kernel
theorem dX5_seenNow_1 : decode cX5_seenNow 1 = .ok (.invokevirtual 78, 3) := by decide +kernel
theorem dX5_seenNow_4 : decode cX5_seenNow 4 = .ok (.aload_n 0, 1) := by decide +kernel
theorem dX5_seenNow_5 : decode cX5_seenNow 5 = .ok (.invokevirtual 81, 3) := by decide +kernel
theorem dX5_seenNow_8 : decode cX5_seenNow 8 = .ok (.ireturn, 1) := by decide +kernel
theorem dX5_blockMany_0 : decode cX5_blockMany 0 = .ok (.iconst 0, 1) := by decide +kernel
theorem dX5_blockMany_1 : decode cX5_blockMany 1 = .ok (.istore_n 1, 1) := by decide +kernel
theorem dX5_blockMany_2 : decode cX5_blockMany 2 = .ok (.iconst 0, 1) := by decide +kernel
theorem dX5_blockMany_3 : decode cX5_blockMany 3 = .ok (.istore_n 2, 1) := by decide +kernel
theorem dX5_blockMany_4 : decode cX5_blockMany 4 = .ok (.iload_n 2, 1) := by decide +kernel
theorem dX5_blockMany_5 : decode cX5_blockMany 5 = .ok (.bipush 36, 2) := by decide +kernel
theorem dX5_blockMany_7 : decode cX5_blockMany 7 = .ok (.if_icmp .ge 20, 3) := by decide +kernel
theorem dX5_blockMany_10 : decode cX5_blockMany 10 = .ok (.iload_n 1, 1) := by decide +kernel
theorem dX5_blockMany_11 : decode cX5_blockMany 11 = .ok (.aload_n 0, 1) := by decide +kernel
theorem dX5_blockMany_12 : decode cX5_blockMany 12 = .ok (.getfield 7, 3) := by decide +kernel
theorem dX5_blockMany_15 : decode cX5_blockMany 15 = .ok (.iconst 2, 1) := by decide +kernel
theorem dX5_blockMany_16 : decode cX5_blockMany 16 = .ok (.iload_n 2, 1) := by decide +kernel
theorem dX5_blockMany_17 : decode cX5_blockMany 17 = .ok (.iadd, 1) := by decide +kernel
theorem dX5_blockMany_18 : decode cX5_blockMany 18 = .ok (.iaload, 1) := by decide +kernel
theorem dX5_blockMany_19 : decode cX5_blockMany 19 = .ok (.iadd, 1) := by decide +kernel
theorem dX5_blockMany_20 : decode cX5_blockMany 20 = .ok (.istore_n 1, 1) := by decide +kernel
theorem dX5_blockMany_21 : decode cX5_blockMany 21 = .ok (.iinc 2 1, 3) := by decide +kernel
theorem dX5_blockMany_24 : decode cX5_blockMany 24 = .ok (.goto (-20), 3) := by decide +kernel
theorem dX5_blockMany_27 : decode cX5_blockMany 27 = .ok (.iload_n 1, 1) := by decide +kernel
theorem dX5_blockMany_28 : decode cX5_blockMany 28 = .ok (.ireturn, 1) := by decide +kernel
set_option maxRecDepth 20000 in
theorem ggX5_isShaded_X5_isSquare : GoodIn wsX5_isShaded wsX5_isSquare := goodIn_r _ [9, 1, 10, 11, 8, 12, 17, 18, 19, 20, 21, 22, 23, 24, 25, 26, 27, 28, 29, 30, 31, 32, 33] (by decide +kernel) (by decide +kernel)
set_option maxRecDepth 20000 in
theorem gX5_isShaded_X5_isSquare : GoodIn wsX5_isShaded (wsV RX5 85 RX5 yX5_isSquare wsX5_isSquare) := goodIn_app (goodIn_of _ (by decide +kernel)) ggX5_isShaded_X5_isSquare
set_option maxRecDepth 20000 in
theorem ggX5_isShaded_X5_height : GoodIn wsX5_isShaded wsX5_height := goodIn_r _ [16, 1, 17, 18, 19, 20, 21, 22, 23, 24, 25, 26, 27, 28, 29, 30, 31, 32, 33] (by decide +kernel) (by decide +kernel)
set_option maxRecDepth 20000 in
theorem gX5_isShaded_X5_height : GoodIn wsX5_isShaded (wsV RX5 66 RX5 yX5_height wsX5_height) := goodIn_app (goodIn_of _ (by decide +kernel)) ggX5_isShaded_X5_height
theorem dX5_isShaded_0 : decode cX5_isShaded 0 = .ok (.iconst 0, 1) := by decide +kernel
theorem dX5_isShaded_1 : decode cX5_isShaded 1 = .ok (.istore 4, 2) := by decide +kernel
theorem dX5_isShaded_3 : decode cX5_isShaded 3 = .ok (.iconst 1, 1) := by decide +kernel
theorem dX5_isShaded_4 : decode cX5_isShaded 4 = .ok (.istore 5, 2) := by decide +kernel
theorem dX5_isShaded_6 : decode cX5_isShaded 6 = .ok (.iload 5, 2) := by decide +kernel
theorem dX5_isShaded_8 : decode cX5_isShaded 8 = .ok (.aload_n 0, 1) := by decide +kernel
theorem dX5_isShaded_9 : decode cX5_isShaded 9 = .ok (.getfield 7, 3) := by decide +kernel
theorem dX5_isShaded_12 : decode cX5_isShaded 12 = .ok (.iconst 0, 1) := by decide +kernel
theorem dX5_isShaded_13 : decode cX5_isShaded 13 = .ok (.iaload, 1) := by decide +kernel
theorem dX5_isShaded_14 : decode cX5_isShaded 14 = .ok (.if_icmp .ge 85, 3) := by decide +kernel
theorem dX5_isShaded_17 : decode cX5_isShaded 17 = .ok (.iload_n 1, 1) := by decide +kernel
theorem dX5_isShaded_18 : decode cX5_isShaded 18 = .ok (.iload 5, 2) := by decide +kernel
theorem dX5_isShaded_20 : decode cX5_isShaded 20 = .ok (.aload_n 0, 1) := by decide +kernel
theorem dX5_isShaded_21 : decode cX5_isShaded 21 = .ok (.getfield 22, 3) := by decide +kernel
theorem dX5_isShaded_24 : decode cX5_isShaded 24 = .ok (.iload_n 3, 1) := by decide +kernel
theorem dX5_isShaded_25 : decode cX5_isShaded 25 = .ok (.iaload, 1) := by decide +kernel
theorem dX5_isShaded_26 : decode cX5_isShaded 26 = .ok (.imul, 1) := by decide +kernel
theorem dX5_isShaded_27 : decode cX5_isShaded 27 = .ok (.iadd, 1) := by decide +kernel
theorem dX5_isShaded_28 : decode cX5_isShaded 28 = .ok (.istore 6, 2) := by decide +kernel
theorem dX5_isShaded_30 : decode cX5_isShaded 30 = .ok (.iload_n 2, 1) := by decide +kernel
theorem dX5_isShaded_31 : decode cX5_isShaded 31 = .ok (.iload 5, 2) := by decide +kernel
theorem dX5_isShaded_33 : decode cX5_isShaded 33 = .ok (.aload_n 0, 1) := by decide +kernel
theorem dX5_isShaded_34 : decode cX5_isShaded 34 = .ok (.getfield 25, 3) := by decide +kernel
theorem dX5_isShaded_37 : decode cX5_isShaded 37 = .ok (.iload_n 3, 1) := by decide +kernel
theorem dX5_isShaded_38 : decode cX5_isShaded 38 = .ok (.iaload, 1) := by decide +kernel
theorem dX5_isShaded_39 : decode cX5_isShaded 39 = .ok (.imul, 1) := by decide +kernel
theorem dX5_isShaded_40 : decode cX5_isShaded 40 = .ok (.iadd, 1) := by decide +kernel
theorem dX5_isShaded_41 : decode cX5_isShaded 41 = .ok (.istore 7, 2) := by decide +kernel
theorem dX5_isShaded_43 : decode cX5_isShaded 43 = .ok (.iload 4, 2) := by decide +kernel
theorem dX5_isShaded_45 : decode cX5_isShaded 45 = .ok (.ifCond .ne 41, 3) := by decide +kernel
theorem dX5_isShaded_48 : decode cX5_isShaded 48 = .ok (.aload_n 0, 1) := by decide +kernel
theorem dX5_isShaded_49 : decode cX5_isShaded 49 = .ok (.iload 6, 2) := by decide +kernel
theorem dX5_isShaded_51 : decode cX5_isShaded 51 = .ok (.iload 7, 2) := by decide +kernel
theorem dX5_isShaded_53 : decode cX5_isShaded 53 = .ok (.invokevirtual 85, 3) := by decide +kernel
theorem dX5_isShaded_56 : decode cX5_isShaded 56 = .ok (.ifCond .eq 34, 3) := by decide +kernel
theorem dX5_isShaded_59 : decode cX5_isShaded 59 = .ok (.aload_n 0, 1) := by decide +kernel
theorem dX5_isShaded_60 : decode cX5_isShaded 60 = .ok (.iload 6, 2) := by decide +kernel
theorem dX5_isShaded_62 : decode cX5_isShaded 62 = .ok (.iload 7, 2) := by decide +kernel
theorem dX5_isShaded_64 : decode cX5_isShaded 64 = .ok (.invokevirtual 66, 3) := by decide +kernel
theorem dX5_isShaded_67 : decode cX5_isShaded 67 = .ok (.aload_n 0, 1) := by decide +kernel
theorem dX5_isShaded_68 : decode cX5_isShaded 68 = .ok (.iload_n 1, 1) := by decide +kernel
theorem dX5_isShaded_69 : decode cX5_isShaded 69 = .ok (.iload_n 2, 1) := by decide +kernel
theorem dX5_isShaded_70 : decode cX5_isShaded 70 = .ok (.invokevirtual 66, 3) := by decide +kernel
theorem dX5_isShaded_73 : decode cX5_isShaded 73 = .ok (.isub, 1) := by decide +kernel
theorem dX5_isShaded_74 : decode cX5_isShaded 74 = .ok (.iload 5, 2) := by decide +kernel
theorem dX5_isShaded_76 : decode cX5_isShaded 76 = .ok (.aload_n 0, 1) := by decide +kernel
theorem dX5_isShaded_77 : decode cX5_isShaded 77 = .ok (.getfield 28, 3) := by decide +kernel
theorem dX5_isShaded_80 : decode cX5_isShaded 80 = .ok (.iload_n 3, 1) := by decide +kernel
theorem dX5_isShaded_81 : decode cX5_isShaded 81 = .ok (.iaload, 1) := by decide +kernel
theorem dX5_isShaded_82 : decode cX5_isShaded 82 = .ok (.imul, 1) := by decide +kernel
theorem dX5_isShaded_83 : decode cX5_isShaded 83 = .ok (.if_icmp .lt 7, 3) := by decide +kernel
theorem dX5_isShaded_86 : decode cX5_isShaded 86 = .ok (.iconst 1, 1) := by decide +kernel
theorem dX5_isShaded_87 : decode cX5_isShaded 87 = .ok (.goto 4, 3) := by decide +kernel
theorem dX5_isShaded_90 : decode cX5_isShaded 90 = .ok (.iconst 0, 1) := by decide +kernel
theorem dX5_isShaded_91 : decode cX5_isShaded 91 = .ok (.istore 4, 2) := by decide +kernel
theorem dX5_isShaded_93 : decode cX5_isShaded 93 = .ok (.iinc 5 1, 3) := by decide +kernel
theorem dX5_isShaded_96 : decode cX5_isShaded 96 = .ok (.goto (-90), 3) := by decide +kernel
theorem dX5_isShaded_99 : decode cX5_isShaded 99 = .ok (.iload 4, 2) := by decide +kernel
theorem dX5_isShaded_101 : decode cX5_isShaded 101 = .ok (.ireturn, 1) := by decide +kernel
set_option maxRecDepth 20000 in
theorem ggX5_shaded_X5_isShaded : GoodIn wsX5_shaded wsX5_isShaded := goodIn_r _ [6, 1, 7, 8, 9, 10, 11, 12, 5, 13, 14, 15, 16, 17, 18, 19, 20, 21, 22, 23, 24, 25, 26, 27, 28, 29, 30, 31, 32, 33, 34, 35, 36, 37] (by decide +kernel) (by decide +kernel)
set_option maxRecDepth 20000 in
theorem gX5_shaded_X5_isShaded : GoodIn wsX5_shaded (wsV RX5 89 RX5 yX5_isShaded wsX5_isShaded) := goodIn_app (goodIn_of _ (by decide +kernel)) ggX5_shaded_X5_isShaded
theorem dX5_shaded_0 : decode cX5_shaded 0 = .ok (.iconst 0, 1) := by decide +kernel
theorem dX5_shaded_1 : decode cX5_shaded 1 = .ok (.istore_n 2, 1) := by decide +kernel
theorem dX5_shaded_2 : decode cX5_shaded 2 = .ok (.iconst 0, 1) := by decide +kernel
theorem dX5_shaded_3 : decode cX5_shaded 3 = .ok (.istore_n 3, 1) := by decide +kernel
theorem dX5_shaded_4 : decode cX5_shaded 4 = .ok (.iload_n 3, 1) := by decide +kernel
theorem dX5_shaded_5 : decode cX5_shaded 5 = .ok (.aload_n 0, 1) := by decide +kernel
theorem dX5_shaded_6 : decode cX5_shaded 6 = .ok (.getfield 7, 3) := by decide +kernel
theorem dX5_shaded_9 : decode cX5_shaded 9 = .ok (.iconst 0, 1) := by decide +kernel
theorem dX5_shaded_10 : decode cX5_shaded 10 = .ok (.iaload, 1) := by decide +kernel
theorem dX5_shaded_11 : decode cX5_shaded 11 = .ok (.if_icmp .ge 48, 3) := by decide +kernel
theorem dX5_shaded_14 : decode cX5_shaded 14 = .ok (.iconst 0, 1) := by decide +kernel
theorem dX5_shaded_15 : decode cX5_shaded 15 = .ok (.istore 4, 2) := by decide +kernel
theorem dX5_shaded_17 : decode cX5_shaded 17 = .ok (.iload 4, 2) := by decide +kernel
theorem dX5_shaded_19 : decode cX5_shaded 19 = .ok (.aload_n 0, 1) := by decide +kernel
theorem dX5_shaded_20 : decode cX5_shaded 20 = .ok (.getfield 7, 3) := by decide +kernel
theorem dX5_shaded_23 : decode cX5_shaded 23 = .ok (.iconst 0, 1) := by decide +kernel
theorem dX5_shaded_24 : decode cX5_shaded 24 = .ok (.iaload, 1) := by decide +kernel
theorem dX5_shaded_25 : decode cX5_shaded 25 = .ok (.if_icmp .ge 28, 3) := by decide +kernel
theorem dX5_shaded_28 : decode cX5_shaded 28 = .ok (.iload_n 2, 1) := by decide +kernel
theorem dX5_shaded_29 : decode cX5_shaded 29 = .ok (.aload_n 0, 1) := by decide +kernel
theorem dX5_shaded_30 : decode cX5_shaded 30 = .ok (.iload 4, 2) := by decide +kernel
theorem dX5_shaded_32 : decode cX5_shaded 32 = .ok (.iload_n 3, 1) := by decide +kernel
theorem dX5_shaded_33 : decode cX5_shaded 33 = .ok (.iload_n 1, 1) := by decide +kernel
theorem dX5_shaded_34 : decode cX5_shaded 34 = .ok (.invokevirtual 89, 3) := by decide +kernel
theorem dX5_shaded_37 : decode cX5_shaded 37 = .ok (.ifCond .eq 7, 3) := by decide +kernel
theorem dX5_shaded_40 : decode cX5_shaded 40 = .ok (.iconst 1, 1) := by decide +kernel
theorem dX5_shaded_41 : decode cX5_shaded 41 = .ok (.goto 4, 3) := by decide +kernel
theorem dX5_shaded_44 : decode cX5_shaded 44 = .ok (.iconst 0, 1) := by decide +kernel
theorem dX5_shaded_45 : decode cX5_shaded 45 = .ok (.iadd, 1) := by decide +kernel
theorem dX5_shaded_46 : decode cX5_shaded 46 = .ok (.istore_n 2, 1) := by decide +kernel
theorem dX5_shaded_47 : decode cX5_shaded 47 = .ok (.iinc 4 1, 3) := by decide +kernel
theorem dX5_shaded_50 : decode cX5_shaded 50 = .ok (.goto (-33), 3) := by decide +kernel
theorem dX5_shaded_53 : decode cX5_shaded 53 = .ok (.iinc 3 1, 3) := by decide +kernel
theorem dX5_shaded_56 : decode cX5_shaded 56 = .ok (.goto (-52), 3) := by decide +kernel
theorem dX5_shaded_59 : decode cX5_shaded 59 = .ok (.iload_n 2, 1) := by decide +kernel
theorem dX5_shaded_60 : decode cX5_shaded 60 = .ok (.ireturn, 1) := by decide +kernel
theorem dX5_clear_0 : decode cX5_clear 0 = .ok (.iconst 2, 1) := by decide +kernel
theorem dX5_clear_1 : decode cX5_clear 1 = .ok (.istore_n 1, 1) := by decide +kernel
theorem dX5_clear_2 : decode cX5_clear 2 = .ok (.iload_n 1, 1) := by decide +kernel
theorem dX5_clear_3 : decode cX5_clear 3 = .ok (.sipush 326, 3) := by decide +kernel
theorem dX5_clear_6 : decode cX5_clear 6 = .ok (.if_icmp .ge 16, 3) := by decide +kernel
theorem dX5_clear_9 : decode cX5_clear 9 = .ok (.aload_n 0, 1) := by decide +kernel
theorem dX5_clear_10 : decode cX5_clear 10 = .ok (.getfield 7, 3) := by decide +kernel
theorem dX5_clear_13 : decode cX5_clear 13 = .ok (.iload_n 1, 1) := by decide +kernel
theorem dX5_clear_14 : decode cX5_clear 14 = .ok (.iconst 0, 1) := by decide +kernel
theorem dX5_clear_15 : decode cX5_clear 15 = .ok (.iastore, 1) := by decide +kernel
theorem dX5_clear_16 : decode cX5_clear 16 = .ok (.iinc 1 1, 3) := by decide +kernel
theorem dX5_clear_19 : decode cX5_clear 19 = .ok (.goto (-17), 3) := by decide +kernel
theorem dX5_clear_22 : decode cX5_clear 22 = .ok (.return_, 1) := by decide +kernel
set_option maxRecDepth 20000 in
theorem ggX5_putOn_X5_height : GoodIn wsX5_putOn wsX5_height := goodIn_r _ [6, 1, 7, 8, 9, 10, 11, 12, 13, 14, 15, 16, 17, 18, 19, 20, 21, 22, 23] (by decide +kernel) (by decide +kernel)
set_option maxRecDepth 20000 in
theorem gX5_putOn_X5_height : GoodIn wsX5_putOn (wsV RX5 66 RX5 yX5_height wsX5_height) := goodIn_app (goodIn_of _ (by decide +kernel)) ggX5_putOn_X5_height
theorem dX5_putOn_0 : decode cX5_putOn 0 = .ok (.aload_n 0, 1) := by decide +kernel
theorem dX5_putOn_1 : decode cX5_putOn 1 = .ok (.getfield 7, 3) := by decide +kernel
theorem dX5_putOn_4 : decode cX5_putOn 4 = .ok (.bipush 38, 2) := by decide +kernel
theorem dX5_putOn_6 : decode cX5_putOn 6 = .ok (.bipush 8, 2) := by decide +kernel
theorem dX5_putOn_8 : decode cX5_putOn 8 = .ok (.bipush 6, 2) := by decide +kernel
theorem dX5_putOn_10 : decode cX5_putOn 10 = .ok (.iload_n 2, 1) := by decide +kernel
theorem dX5_putOn_11 : decode cX5_putOn 11 = .ok (.imul, 1) := by decide +kernel
theorem dX5_putOn_12 : decode cX5_putOn 12 = .ok (.iload_n 1, 1) := by decide +kernel
theorem dX5_putOn_13 : decode cX5_putOn 13 = .ok (.iadd, 1) := by decide +kernel
theorem dX5_putOn_14 : decode cX5_putOn 14 = .ok (.imul, 1) := by decide +kernel
theorem dX5_putOn_15 : decode cX5_putOn 15 = .ok (.iadd, 1) := by decide +kernel
theorem dX5_putOn_16 : decode cX5_putOn 16 = .ok (.aload_n 0, 1) := by decide +kernel
theorem dX5_putOn_17 : decode cX5_putOn 17 = .ok (.iload_n 1, 1) := by decide +kernel
theorem dX5_putOn_18 : decode cX5_putOn 18 = .ok (.iload_n 2, 1) := by decide +kernel
theorem dX5_putOn_19 : decode cX5_putOn 19 = .ok (.invokevirtual 66, 3) := by decide +kernel
theorem dX5_putOn_22 : decode cX5_putOn 22 = .ok (.iadd, 1) := by decide +kernel
theorem dX5_putOn_23 : decode cX5_putOn 23 = .ok (.iload_n 3, 1) := by decide +kernel
theorem dX5_putOn_24 : decode cX5_putOn 24 = .ok (.iastore, 1) := by decide +kernel
theorem dX5_putOn_25 : decode cX5_putOn 25 = .ok (.aload_n 0, 1) := by decide +kernel
theorem dX5_putOn_26 : decode cX5_putOn 26 = .ok (.getfield 7, 3) := by decide +kernel
theorem dX5_putOn_29 : decode cX5_putOn 29 = .ok (.iconst 2, 1) := by decide +kernel
theorem dX5_putOn_30 : decode cX5_putOn 30 = .ok (.bipush 6, 2) := by decide +kernel
theorem dX5_putOn_32 : decode cX5_putOn 32 = .ok (.iload_n 2, 1) := by decide +kernel
theorem dX5_putOn_33 : decode cX5_putOn 33 = .ok (.imul, 1) := by decide +kernel
theorem dX5_putOn_34 : decode cX5_putOn 34 = .ok (.iadd, 1) := by decide +kernel
theorem dX5_putOn_35 : decode cX5_putOn 35 = .ok (.iload_n 1, 1) := by decide +kernel
theorem dX5_putOn_36 : decode cX5_putOn 36 = .ok (.iadd, 1) := by decide +kernel
theorem dX5_putOn_37 : decode cX5_putOn 37 = .ok (.dup2, 1) := by decide +kernel
theorem dX5_putOn_38 : decode cX5_putOn 38 = .ok (.iaload, 1) := by decide +kernel
theorem dX5_putOn_39 : decode cX5_putOn 39 = .ok (.iconst 1, 1) := by decide +kernel
theorem dX5_putOn_40 : decode cX5_putOn 40 = .ok (.iadd, 1) := by decide +kernel
theorem dX5_putOn_41 : decode cX5_putOn 41 = .ok (.iastore, 1) := by decide +kernel
theorem dX5_putOn_42 : decode cX5_putOn 42 = .ok (.return_, 1) := by decide +kernel
set_option maxRecDepth 20000 in
theorem ggX5_takeFrom_X5_height : GoodIn wsX5_takeFrom wsX5_height := goodIn_r _ [6, 1, 7, 8, 9, 10, 11, 12, 13, 14, 15, 16, 17, 18, 19, 20, 21, 22, 23] (by decide +kernel) (by decide +kernel)
set_option maxRecDepth 20000 in
theorem gX5_takeFrom_X5_height : GoodIn wsX5_takeFrom (wsV RX5 66 RX5 yX5_height wsX5_height) := goodIn_app (goodIn_of _ (by decide +kernel)) ggX5_takeFrom_X5_height
theorem dX5_takeFrom_0 : decode cX5_takeFrom 0 = .ok (.aload_n 0, 1) := by decide +kernel
theorem dX5_takeFrom_1 : decode cX5_takeFrom 1 = .ok (.getfield 7, 3) := by decide +kernel
theorem dX5_takeFrom_4 : decode cX5_takeFrom 4 = .ok (.iconst 2, 1) := by decide +kernel
theorem dX5_takeFrom_5 : decode cX5_takeFrom 5 = .ok (.bipush 6, 2) := by decide +kernel
theorem dX5_takeFrom_7 : decode cX5_takeFrom 7 = .ok (.iload_n 2, 1) := by decide +kernel
theorem dX5_takeFrom_8 : decode cX5_takeFrom 8 = .ok (.imul, 1) := by decide +kernel
theorem dX5_takeFrom_9 : decode cX5_takeFrom 9 = .ok (.iadd, 1) := by decide +kernel
theorem dX5_takeFrom_10 : decode cX5_takeFrom 10 = .ok (.iload_n 1, 1) := by decide +kernel
theorem dX5_takeFrom_11 : decode cX5_takeFrom 11 = .ok (.iadd, 1) := by decide +kernel
theorem dX5_takeFrom_12 : decode cX5_takeFrom 12 = .ok (.dup2, 1) := by decide +kernel
theorem dX5_takeFrom_13 : decode cX5_takeFrom 13 = .ok (.iaload, 1) := by decide +kernel
theorem dX5_takeFrom_14 : decode cX5_takeFrom 14 = .ok (.iconst 1, 1) := by decide +kernel
theorem dX5_takeFrom_15 : decode cX5_takeFrom 15 = .ok (.isub, 1) := by decide +kernel
theorem dX5_takeFrom_16 : decode cX5_takeFrom 16 = .ok (.iastore, 1) := by decide +kernel
theorem dX5_takeFrom_17 : decode cX5_takeFrom 17 = .ok (.bipush 38, 2) := by decide +kernel
theorem dX5_takeFrom_19 : decode cX5_takeFrom 19 = .ok (.bipush 8, 2) := by decide +kernel
theorem dX5_takeFrom_21 : decode cX5_takeFrom 21 = .ok (.bipush 6, 2) := by decide +kernel
theorem dX5_takeFrom_23 : decode cX5_takeFrom 23 = .ok (.iload_n 2, 1) := by decide +kernel
theorem dX5_takeFrom_24 : decode cX5_takeFrom 24 = .ok (.imul, 1) := by decide +kernel
theorem dX5_takeFrom_25 : decode cX5_takeFrom 25 = .ok (.iload_n 1, 1) := by decide +kernel
theorem dX5_takeFrom_26 : decode cX5_takeFrom 26 = .ok (.iadd, 1) := by decide +kernel
theorem dX5_takeFrom_27 : decode cX5_takeFrom 27 = .ok (.imul, 1) := by decide +kernel
theorem dX5_takeFrom_28 : decode cX5_takeFrom 28 = .ok (.iadd, 1) := by decide +kernel
theorem dX5_takeFrom_29 : decode cX5_takeFrom 29 = .ok (.aload_n 0, 1) := by decide +kernel
theorem dX5_takeFrom_30 : decode cX5_takeFrom 30 = .ok (.iload_n 1, 1) := by decide +kernel
theorem dX5_takeFrom_31 : decode cX5_takeFrom 31 = .ok (.iload_n 2, 1) := by decide +kernel
theorem dX5_takeFrom_32 : decode cX5_takeFrom 32 = .ok (.invokevirtual 66, 3) := by decide +kernel
theorem dX5_takeFrom_35 : decode cX5_takeFrom 35 = .ok (.iadd, 1) := by decide +kernel
theorem dX5_takeFrom_36 : decode cX5_takeFrom 36 = .ok (.istore_n 3, 1) := by decide +kernel
theorem dX5_takeFrom_37 : decode cX5_takeFrom 37 = .ok (.aload_n 0, 1) := by decide +kernel
theorem dX5_takeFrom_38 : decode cX5_takeFrom 38 = .ok (.getfield 7, 3) := by decide +kernel
theorem dX5_takeFrom_41 : decode cX5_takeFrom 41 = .ok (.iload_n 3, 1) := by decide +kernel
theorem dX5_takeFrom_42 : decode cX5_takeFrom 42 = .ok (.iaload, 1) := by decide +kernel
theorem dX5_takeFrom_43 : decode cX5_takeFrom 43 = .ok (.istore 4, 2) := by decide +kernel
theorem dX5_takeFrom_45 : decode cX5_takeFrom 45 = .ok (.aload_n 0, 1) := by decide +kernel
theorem dX5_takeFrom_46 : decode cX5_takeFrom 46 = .ok (.getfield 7, 3) := by decide +kernel
theorem dX5_takeFrom_49 : decode cX5_takeFrom 49 = .ok (.iload_n 3, 1) := by decide +kernel
theorem dX5_takeFrom_50 : decode cX5_takeFrom 50 = .ok (.iconst 0, 1) := by decide +kernel
theorem dX5_takeFrom_51 : decode cX5_takeFrom 51 = .ok (.iastore, 1) := by decide +kernel
theorem dX5_takeFrom_52 : decode cX5_takeFrom 52 = .ok (.iload 4, 2) := by decide +kernel
theorem dX5_takeFrom_54 : decode cX5_takeFrom 54 = .ok (.ireturn, 1) := by decide +kernel
set_option maxRecDepth 20000 in
theorem ggX5_begin_X5_in : GoodIn wsX5_begin wsX5_in := goodIn_r _ [6] (by decide +kernel) (by decide +kernel)
set_option maxRecDepth 20000 in
theorem gX5_begin_X5_in : GoodIn wsX5_begin (va_wsS RX5 51 yX5_in wsX5_in) := goodIn_app (goodIn_of _ (by decide +kernel)) ggX5_begin_X5_in
set_option maxRecDepth 20000 in
theorem ggX5_begin_X5_save : GoodIn wsX5_begin wsX5_save := goodIn_r _ [10, 11, 12, 2, 17, 18, 19, 20, 21, 22, 23, 24, 25, 26, 27, 28, 29, 30, 31, 32, 33] (by decide +kernel) (by decide +kernel)
set_option maxRecDepth 20000 in
theorem gX5_begin_X5_save : GoodIn wsX5_begin (wsV RX5 92 RX5 yX5_save wsX5_save) := goodIn_app (goodIn_of _ (by decide +kernel)) ggX5_begin_X5_save
set_option maxRecDepth 20000 in
theorem ggX5_begin_X5_clear : GoodIn wsX5_begin wsX5_clear := goodIn_r _ [16, 2, 17, 18, 19, 20, 21, 22, 23, 24, 25, 26, 27, 28, 29, 30, 31, 32, 33] (by decide +kernel) (by decide +kernel)
set_option maxRecDepth 20000 in
theorem gX5_begin_X5_clear : GoodIn wsX5_begin (wsV RX5 95 RX5 yX5_clear wsX5_clear) := goodIn_app (goodIn_of _ (by decide +kernel)) ggX5_begin_X5_clear
theorem dX5_begin_0 : decode cX5_begin 0 = .ok (.aload_n 0, 1) := by decide +kernel
theorem dX5_begin_1 : decode cX5_begin 1 = .ok (.iload_n 1, 1) := by decide +kernel
theorem dX5_begin_2 : decode cX5_begin 2 = .ok (.iconst 2, 1) := by decide +kernel
theorem dX5_begin_3 : decode cX5_begin 3 = .ok (.bipush 6, 2) := by decide +kernel
theorem dX5_begin_5 : decode cX5_begin 5 = .ok (.invokestatic 51, 3) := by decide +kernel
theorem dX5_begin_8 : decode cX5_begin 8 = .ok (.ifCond .eq 7, 3) := by decide +kernel
theorem dX5_begin_11 : decode cX5_begin 11 = .ok (.iconst 0, 1) := by decide +kernel
theorem dX5_begin_12 : decode cX5_begin 12 = .ok (.goto 4, 3) := by decide +kernel
theorem dX5_begin_15 : decode cX5_begin 15 = .ok (.iconst 1, 1) := by decide +kernel
theorem dX5_begin_16 : decode cX5_begin 16 = .ok (.putfield 47, 3) := by decide +kernel
theorem dX5_begin_19 : decode cX5_begin 19 = .ok (.aload_n 0, 1) := by decide +kernel
theorem dX5_begin_20 : decode cX5_begin 20 = .ok (.getfield 47, 3) := by decide +kernel
theorem dX5_begin_23 : decode cX5_begin 23 = .ok (.ifCond .le 5, 3) := by decide +kernel
theorem dX5_begin_26 : decode cX5_begin 26 = .ok (.iconst 0, 1) := by decide +kernel
theorem dX5_begin_27 : decode cX5_begin 27 = .ok (.ireturn, 1) := by decide +kernel
theorem dX5_begin_28 : decode cX5_begin 28 = .ok (.aload_n 0, 1) := by decide +kernel
theorem dX5_begin_29 : decode cX5_begin 29 = .ok (.invokevirtual 92, 3) := by decide +kernel
theorem dX5_begin_32 : decode cX5_begin 32 = .ok (.aload_n 0, 1) := by decide +kernel
theorem dX5_begin_33 : decode cX5_begin 33 = .ok (.invokevirtual 95, 3) := by decide +kernel
theorem dX5_begin_36 : decode cX5_begin 36 = .ok (.aload_n 0, 1) := by decide +kernel
theorem dX5_begin_37 : decode cX5_begin 37 = .ok (.getfield 7, 3) := by decide +kernel
theorem dX5_begin_40 : decode cX5_begin 40 = .ok (.iconst 0, 1) := by decide +kernel
theorem dX5_begin_41 : decode cX5_begin 41 = .ok (.iload_n 1, 1) := by decide +kernel
theorem dX5_begin_42 : decode cX5_begin 42 = .ok (.iastore, 1) := by decide +kernel
theorem dX5_begin_43 : decode cX5_begin 43 = .ok (.iload_n 1, 1) := by decide +kernel
theorem dX5_begin_44 : decode cX5_begin 44 = .ok (.iload_n 1, 1) := by decide +kernel
theorem dX5_begin_45 : decode cX5_begin 45 = .ok (.imul, 1) := by decide +kernel
theorem dX5_begin_46 : decode cX5_begin 46 = .ok (.ireturn, 1) := by decide +kernel
set_option maxRecDepth 20000 in
theorem ggX5_put_X5_isSquare : GoodIn wsX5_put wsX5_isSquare := goodIn_r _ [6, 7, 8, 9, 5, 10, 28, 29, 30, 31, 32, 33, 34, 35, 36, 37, 38, 39, 40, 41, 42, 43, 44] (by decide +kernel) (by decide +kernel)
set_option maxRecDepth 20000 in
theorem gX5_put_X5_isSquare : GoodIn wsX5_put (wsV RX5 85 RX5 yX5_isSquare wsX5_isSquare) := goodIn_app (goodIn_of _ (by decide +kernel)) ggX5_put_X5_isSquare
set_option maxRecDepth 20000 in
theorem ggX5_put_X5_isColour : GoodIn wsX5_put wsX5_isColour := goodIn_r _ [13, 8, 9, 5, 10] (by decide +kernel) (by decide +kernel)
set_option maxRecDepth 20000 in
theorem gX5_put_X5_isColour : GoodIn wsX5_put (va_wsS RX5 98 yX5_isColour wsX5_isColour) := goodIn_app (goodIn_of _ (by decide +kernel)) ggX5_put_X5_isColour
set_option maxRecDepth 20000 in
theorem ggX5_put_X5_height : GoodIn wsX5_put wsX5_height := goodIn_r _ [17, 7, 28, 29, 30, 31, 32, 33, 34, 35, 36, 37, 38, 39, 40, 41, 42, 43, 44] (by decide +kernel) (by decide +kernel)
set_option maxRecDepth 20000 in
theorem gX5_put_X5_height : GoodIn wsX5_put (wsV RX5 66 RX5 yX5_height wsX5_height) := goodIn_app (goodIn_of _ (by decide +kernel)) ggX5_put_X5_height
set_option maxRecDepth 20000 in
theorem ggX5_put_X5_save : GoodIn wsX5_put wsX5_save := goodIn_r _ [21, 22, 23, 7, 28, 29, 30, 31, 32, 33, 34, 35, 36, 37, 38, 39, 40, 41, 42, 43, 44] (by decide +kernel) (by decide +kernel)
set_option maxRecDepth 20000 in
theorem gX5_put_X5_save : GoodIn wsX5_put (wsV RX5 92 RX5 yX5_save wsX5_save) := goodIn_app (goodIn_of _ (by decide +kernel)) ggX5_put_X5_save
set_option maxRecDepth 20000 in
theorem ggX5_put_X5_putOn : GoodIn wsX5_put wsX5_putOn := goodIn_r _ [27, 7, 14, 15, 16, 5, 17, 28, 29, 30, 31, 32, 33, 34, 35, 36, 37, 38, 39, 40, 41, 42, 43, 44] (by decide +kernel) (by decide +kernel)
set_option maxRecDepth 20000 in
theorem gX5_put_X5_putOn : GoodIn wsX5_put (wsV RX5 101 RX5 yX5_putOn wsX5_putOn) := goodIn_app (goodIn_of _ (by decide +kernel)) ggX5_put_X5_putOn
theorem dX5_put_0 : decode cX5_put 0 = .ok (.aload_n 0, 1) := by decide +kernel
theorem dX5_put_1 : decode cX5_put 1 = .ok (.aload_n 0, 1) := by decide +kernel
theorem dX5_put_2 : decode cX5_put 2 = .ok (.iload_n 1, 1) := by decide +kernel
theorem dX5_put_3 : decode cX5_put 3 = .ok (.iload_n 2, 1) := by decide +kernel
theorem dX5_put_4 : decode cX5_put 4 = .ok (.invokevirtual 85, 3) := by decide +kernel
theorem dX5_put_7 : decode cX5_put 7 = .ok (.ifCond .ne 7, 3) := by decide +kernel
theorem dX5_put_10 : decode cX5_put 10 = .ok (.iconst 1, 1) := by decide +kernel
theorem dX5_put_11 : decode cX5_put 11 = .ok (.goto 30, 3) := by decide +kernel
theorem dX5_put_14 : decode cX5_put 14 = .ok (.iload_n 3, 1) := by decide +kernel
theorem dX5_put_15 : decode cX5_put 15 = .ok (.invokestatic 98, 3) := by decide +kernel
theorem dX5_put_18 : decode cX5_put 18 = .ok (.ifCond .ne 7, 3) := by decide +kernel
theorem dX5_put_21 : decode cX5_put 21 = .ok (.iconst 2, 1) := by decide +kernel
theorem dX5_put_22 : decode cX5_put 22 = .ok (.goto 19, 3) := by decide +kernel
theorem dX5_put_25 : decode cX5_put 25 = .ok (.aload_n 0, 1) := by decide +kernel
theorem dX5_put_26 : decode cX5_put 26 = .ok (.iload_n 1, 1) := by decide +kernel
theorem dX5_put_27 : decode cX5_put 27 = .ok (.iload_n 2, 1) := by decide +kernel
theorem dX5_put_28 : decode cX5_put 28 = .ok (.invokevirtual 66, 3) := by decide +kernel
theorem dX5_put_31 : decode cX5_put 31 = .ok (.bipush 8, 2) := by decide +kernel
theorem dX5_put_33 : decode cX5_put 33 = .ok (.if_icmp .ne 7, 3) := by decide +kernel
theorem dX5_put_36 : decode cX5_put 36 = .ok (.iconst 3, 1) := by decide +kernel
theorem dX5_put_37 : decode cX5_put 37 = .ok (.goto 4, 3) := by decide +kernel
theorem dX5_put_40 : decode cX5_put 40 = .ok (.iconst 0, 1) := by decide +kernel
theorem dX5_put_41 : decode cX5_put 41 = .ok (.putfield 47, 3) := by decide +kernel
theorem dX5_put_44 : decode cX5_put 44 = .ok (.aload_n 0, 1) := by decide +kernel
theorem dX5_put_45 : decode cX5_put 45 = .ok (.getfield 47, 3) := by decide +kernel
theorem dX5_put_48 : decode cX5_put 48 = .ok (.ifCond .le 5, 3) := by decide +kernel
theorem dX5_put_51 : decode cX5_put 51 = .ok (.iconst 0, 1) := by decide +kernel
theorem dX5_put_52 : decode cX5_put 52 = .ok (.ireturn, 1) := by decide +kernel
theorem dX5_put_53 : decode cX5_put 53 = .ok (.aload_n 0, 1) := by decide +kernel
theorem dX5_put_54 : decode cX5_put 54 = .ok (.invokevirtual 92, 3) := by decide +kernel
theorem dX5_put_57 : decode cX5_put 57 = .ok (.aload_n 0, 1) := by decide +kernel
theorem dX5_put_58 : decode cX5_put 58 = .ok (.iload_n 1, 1) := by decide +kernel
theorem dX5_put_59 : decode cX5_put 59 = .ok (.iload_n 2, 1) := by decide +kernel
theorem dX5_put_60 : decode cX5_put 60 = .ok (.iload_n 3, 1) := by decide +kernel
theorem dX5_put_61 : decode cX5_put 61 = .ok (.invokevirtual 101, 3) := by decide +kernel
theorem dX5_put_64 : decode cX5_put 64 = .ok (.aload_n 0, 1) := by decide +kernel
theorem dX5_put_65 : decode cX5_put 65 = .ok (.iload_n 1, 1) := by decide +kernel
theorem dX5_put_66 : decode cX5_put 66 = .ok (.iload_n 2, 1) := by decide +kernel
theorem dX5_put_67 : decode cX5_put 67 = .ok (.invokevirtual 66, 3) := by decide +kernel
theorem dX5_put_70 : decode cX5_put 70 = .ok (.ireturn, 1) := by decide +kernel
set_option maxRecDepth 20000 in
theorem ggX5_take_X5_isSquare : GoodIn wsX5_take wsX5_isSquare := goodIn_r _ [6, 7, 8, 9, 5, 10, 25, 26, 27, 28, 29, 30, 31, 32, 33, 34, 35, 36, 37, 38, 39, 40, 41] (by decide +kernel) (by decide +kernel)
set_option maxRecDepth 20000 in
theorem gX5_take_X5_isSquare : GoodIn wsX5_take (wsV RX5 85 RX5 yX5_isSquare wsX5_isSquare) := goodIn_app (goodIn_of _ (by decide +kernel)) ggX5_take_X5_isSquare
set_option maxRecDepth 20000 in
theorem ggX5_take_X5_height : GoodIn wsX5_take wsX5_height := goodIn_r _ [14, 7, 25, 26, 27, 28, 29, 30, 31, 32, 33, 34, 35, 36, 37, 38, 39, 40, 41] (by decide +kernel) (by decide +kernel)
set_option maxRecDepth 20000 in
theorem gX5_take_X5_height : GoodIn wsX5_take (wsV RX5 66 RX5 yX5_height wsX5_height) := goodIn_app (goodIn_of _ (by decide +kernel)) ggX5_take_X5_height
set_option maxRecDepth 20000 in
theorem ggX5_take_X5_save : GoodIn wsX5_take wsX5_save := goodIn_r _ [18, 19, 20, 7, 25, 26, 27, 28, 29, 30, 31, 32, 33, 34, 35, 36, 37, 38, 39, 40, 41] (by decide +kernel) (by decide +kernel)
set_option maxRecDepth 20000 in
theorem gX5_take_X5_save : GoodIn wsX5_take (wsV RX5 92 RX5 yX5_save wsX5_save) := goodIn_app (goodIn_of _ (by decide +kernel)) ggX5_take_X5_save
set_option maxRecDepth 20000 in
theorem ggX5_take_X5_takeFrom : GoodIn wsX5_take wsX5_takeFrom := goodIn_r _ [24, 7, 11, 12, 13, 5, 14, 25, 26, 27, 28, 29, 30, 31, 32, 33, 34, 35, 36, 37, 38, 39, 40, 41] (by decide +kernel) (by decide +kernel)
set_option maxRecDepth 20000 in
theorem gX5_take_X5_takeFrom : GoodIn wsX5_take (wsV RX5 104 RX5 yX5_takeFrom wsX5_takeFrom) := goodIn_app (goodIn_of _ (by decide +kernel)) ggX5_take_X5_takeFrom
theorem dX5_take_0 : decode cX5_take 0 = .ok (.aload_n 0, 1) := by decide +kernel
theorem dX5_take_1 : decode cX5_take 1 = .ok (.aload_n 0, 1) := by decide +kernel
theorem dX5_take_2 : decode cX5_take 2 = .ok (.iload_n 1, 1) := by decide +kernel
theorem dX5_take_3 : decode cX5_take 3 = .ok (.iload_n 2, 1) := by decide +kernel
theorem dX5_take_4 : decode cX5_take 4 = .ok (.invokevirtual 85, 3) := by decide +kernel
theorem dX5_take_7 : decode cX5_take 7 = .ok (.ifCond .ne 7, 3) := by decide +kernel
theorem dX5_take_10 : decode cX5_take 10 = .ok (.iconst 1, 1) := by decide +kernel
theorem dX5_take_11 : decode cX5_take 11 = .ok (.goto 17, 3) := by decide +kernel
theorem dX5_take_14 : decode cX5_take 14 = .ok (.aload_n 0, 1) := by decide +kernel
theorem dX5_take_15 : decode cX5_take 15 = .ok (.iload_n 1, 1) := by decide +kernel
theorem dX5_take_16 : decode cX5_take 16 = .ok (.iload_n 2, 1) := by decide +kernel
theorem dX5_take_17 : decode cX5_take 17 = .ok (.invokevirtual 66, 3) := by decide +kernel
theorem dX5_take_20 : decode cX5_take 20 = .ok (.ifCond .ne 7, 3) := by decide +kernel
theorem dX5_take_23 : decode cX5_take 23 = .ok (.iconst 2, 1) := by decide +kernel
theorem dX5_take_24 : decode cX5_take 24 = .ok (.goto 4, 3) := by decide +kernel
theorem dX5_take_27 : decode cX5_take 27 = .ok (.iconst 0, 1) := by decide +kernel
theorem dX5_take_28 : decode cX5_take 28 = .ok (.putfield 47, 3) := by decide +kernel
theorem dX5_take_31 : decode cX5_take 31 = .ok (.aload_n 0, 1) := by decide +kernel
theorem dX5_take_32 : decode cX5_take 32 = .ok (.getfield 47, 3) := by decide +kernel
theorem dX5_take_35 : decode cX5_take 35 = .ok (.ifCond .le 5, 3) := by decide +kernel
theorem dX5_take_38 : decode cX5_take 38 = .ok (.iconst 0, 1) := by decide +kernel
theorem dX5_take_39 : decode cX5_take 39 = .ok (.ireturn, 1) := by decide +kernel
theorem dX5_take_40 : decode cX5_take 40 = .ok (.aload_n 0, 1) := by decide +kernel
theorem dX5_take_41 : decode cX5_take 41 = .ok (.invokevirtual 92, 3) := by decide +kernel
theorem dX5_take_44 : decode cX5_take 44 = .ok (.aload_n 0, 1) := by decide +kernel
theorem dX5_take_45 : decode cX5_take 45 = .ok (.iload_n 1, 1) := by decide +kernel
theorem dX5_take_46 : decode cX5_take 46 = .ok (.iload_n 2, 1) := by decide +kernel
theorem dX5_take_47 : decode cX5_take 47 = .ok (.invokevirtual 104, 3) := by decide +kernel
theorem dX5_take_50 : decode cX5_take 50 = .ok (.ireturn, 1) := by decide +kernel
set_option maxRecDepth 20000 in
theorem ggX5_canCarry_X5_height : GoodIn wsX5_canCarry wsX5_height := goodIn_r _ [5, 6, 7, 8, 9, 10, 11, 12, 13, 14, 15, 16, 17, 18, 19, 20, 21, 22, 23] (by decide +kernel) (by decide +kernel)
set_option maxRecDepth 20000 in
theorem gX5_canCarry_X5_height : GoodIn wsX5_canCarry (wsV RX5 66 RX5 yX5_height wsX5_height) := goodIn_app (goodIn_of _ (by decide +kernel)) ggX5_canCarry_X5_height
theorem dX5_canCarry_0 : decode cX5_canCarry 0 = .ok (.iload_n 1, 1) := by decide +kernel
theorem dX5_canCarry_1 : decode cX5_canCarry 1 = .ok (.iload_n 3, 1) := by decide +kernel
theorem dX5_canCarry_2 : decode cX5_canCarry 2 = .ok (.if_icmp .ne 9, 3) := by decide +kernel
theorem dX5_canCarry_5 : decode cX5_canCarry 5 = .ok (.iload_n 2, 1) := by decide +kernel
theorem dX5_canCarry_6 : decode cX5_canCarry 6 = .ok (.iload 4, 2) := by decide +kernel
theorem dX5_canCarry_8 : decode cX5_canCarry 8 = .ok (.if_icmp .eq 26, 3) := by decide +kernel
theorem dX5_canCarry_11 : decode cX5_canCarry 11 = .ok (.aload_n 0, 1) := by decide +kernel
theorem dX5_canCarry_12 : decode cX5_canCarry 12 = .ok (.iload_n 1, 1) := by decide +kernel
theorem dX5_canCarry_13 : decode cX5_canCarry 13 = .ok (.iload_n 2, 1) := by decide +kernel
theorem dX5_canCarry_14 : decode cX5_canCarry 14 = .ok (.invokevirtual 66, 3) := by decide +kernel
theorem dX5_canCarry_17 : decode cX5_canCarry 17 = .ok (.aload_n 0, 1) := by decide +kernel
theorem dX5_canCarry_18 : decode cX5_canCarry 18 = .ok (.iload_n 3, 1) := by decide +kernel
theorem dX5_canCarry_19 : decode cX5_canCarry 19 = .ok (.iload 4, 2) := by decide +kernel
theorem dX5_canCarry_21 : decode cX5_canCarry 21 = .ok (.invokevirtual 66, 3) := by decide +kernel
theorem dX5_canCarry_24 : decode cX5_canCarry 24 = .ok (.iadd, 1) := by decide +kernel
theorem dX5_canCarry_25 : decode cX5_canCarry 25 = .ok (.bipush 8, 2) := by decide +kernel
theorem dX5_canCarry_27 : decode cX5_canCarry 27 = .ok (.if_icmp .gt 7, 3) := by decide +kernel
theorem dX5_canCarry_30 : decode cX5_canCarry 30 = .ok (.iconst 1, 1) := by decide +kernel
theorem dX5_canCarry_31 : decode cX5_canCarry 31 = .ok (.goto 4, 3) := by decide +kernel
theorem dX5_canCarry_34 : decode cX5_canCarry 34 = .ok (.iconst 0, 1) := by decide +kernel
theorem dX5_canCarry_35 : decode cX5_canCarry 35 = .ok (.ireturn, 1) := by decide +kernel
set_option maxRecDepth 20000 in
theorem ggX5_carry_X5_isSquare : GoodIn wsX5_carry wsX5_isSquare := goodIn_r _ [6, 7, 8, 9, 5, 10, 37, 38, 39, 40, 41, 42, 43, 44, 45, 46, 47, 48, 49, 50, 51, 52, 53] (by decide +kernel) (by decide +kernel)
set_option maxRecDepth 20000 in
theorem gX5_carry_X5_isSquare : GoodIn wsX5_carry (wsV RX5 85 RX5 yX5_isSquare wsX5_isSquare) := goodIn_app (goodIn_of _ (by decide +kernel)) ggX5_carry_X5_isSquare
set_option maxRecDepth 20000 in
theorem ggX5_carry_X5_canCarry : GoodIn wsX5_carry wsX5_canCarry := goodIn_r _ [14, 15, 16, 17, 5, 18, 7, 37, 38, 39, 40, 41, 42, 43, 44, 45, 46, 47, 48, 49, 50, 51, 52, 53] (by decide +kernel) (by decide +kernel)
set_option maxRecDepth 20000 in
theorem gX5_carry_X5_canCarry : GoodIn wsX5_carry (wsV RX5 107 RX5 yX5_canCarry wsX5_canCarry) := goodIn_app (goodIn_of _ (by decide +kernel)) ggX5_carry_X5_canCarry
set_option maxRecDepth 20000 in
theorem ggX5_carry_X5_save : GoodIn wsX5_carry wsX5_save := goodIn_r _ [22, 23, 24, 7, 37, 38, 39, 40, 41, 42, 43, 44, 45, 46, 47, 48, 49, 50, 51, 52, 53] (by decide +kernel) (by decide +kernel)
set_option maxRecDepth 20000 in
theorem gX5_carry_X5_save : GoodIn wsX5_carry (wsV RX5 92 RX5 yX5_save wsX5_save) := goodIn_app (goodIn_of _ (by decide +kernel)) ggX5_carry_X5_save
set_option maxRecDepth 20000 in
theorem ggX5_carry_X5_height : GoodIn wsX5_carry wsX5_height := goodIn_r _ [18, 7, 37, 38, 39, 40, 41, 42, 43, 44, 45, 46, 47, 48, 49, 50, 51, 52, 53] (by decide +kernel) (by decide +kernel)
set_option maxRecDepth 20000 in
theorem gX5_carry_X5_height : GoodIn wsX5_carry (wsV RX5 66 RX5 yX5_height wsX5_height) := goodIn_app (goodIn_of _ (by decide +kernel)) ggX5_carry_X5_height
set_option maxRecDepth 20000 in
theorem ggX5_carry_X5_colour : GoodIn wsX5_carry wsX5_colour := goodIn_r _ [28, 7, 37, 38, 39, 40, 41, 42, 43, 44, 45, 46, 47, 48, 49, 50, 51, 52, 53] (by decide +kernel) (by decide +kernel)
set_option maxRecDepth 20000 in
theorem gX5_carry_X5_colour : GoodIn wsX5_carry (wsV RX5 111 RX5 yX5_colour wsX5_colour) := goodIn_app (goodIn_of _ (by decide +kernel)) ggX5_carry_X5_colour
set_option maxRecDepth 20000 in
theorem ggX5_carry_X5_putOn : GoodIn wsX5_carry wsX5_putOn := goodIn_r _ [32, 7, 15, 16, 17, 5, 18, 37, 38, 39, 40, 41, 42, 43, 44, 45, 46, 47, 48, 49, 50, 51, 52, 53] (by decide +kernel) (by decide +kernel)
set_option maxRecDepth 20000 in
theorem gX5_carry_X5_putOn : GoodIn wsX5_carry (wsV RX5 101 RX5 yX5_putOn wsX5_putOn) := goodIn_app (goodIn_of _ (by decide +kernel)) ggX5_carry_X5_putOn
set_option maxRecDepth 20000 in
theorem ggX5_carry_X5_takeFrom : GoodIn wsX5_carry wsX5_takeFrom := goodIn_r _ [36, 7, 15, 16, 17, 5, 18, 37, 38, 39, 40, 41, 42, 43, 44, 45, 46, 47, 48, 49, 50, 51, 52, 53] (by decide +kernel) (by decide +kernel)
set_option maxRecDepth 20000 in
theorem gX5_carry_X5_takeFrom : GoodIn wsX5_carry (wsV RX5 104 RX5 yX5_takeFrom wsX5_takeFrom) := goodIn_app (goodIn_of _ (by decide +kernel)) ggX5_carry_X5_takeFrom
theorem dX5_carry_0 : decode cX5_carry 0 = .ok (.aload_n 0, 1) := by decide +kernel
theorem dX5_carry_1 : decode cX5_carry 1 = .ok (.aload_n 0, 1) := by decide +kernel
theorem dX5_carry_2 : decode cX5_carry 2 = .ok (.iload_n 1, 1) := by decide +kernel
theorem dX5_carry_3 : decode cX5_carry 3 = .ok (.iload_n 2, 1) := by decide +kernel
theorem dX5_carry_4 : decode cX5_carry 4 = .ok (.invokevirtual 85, 3) := by decide +kernel
theorem dX5_carry_7 : decode cX5_carry 7 = .ok (.ifCond .eq 13, 3) := by decide +kernel
theorem dX5_carry_10 : decode cX5_carry 10 = .ok (.aload_n 0, 1) := by decide +kernel
theorem dX5_carry_11 : decode cX5_carry 11 = .ok (.iload_n 3, 1) := by decide +kernel
theorem dX5_carry_12 : decode cX5_carry 12 = .ok (.iload 4, 2) := by decide +kernel
theorem dX5_carry_14 : decode cX5_carry 14 = .ok (.invokevirtual 85, 3) := by decide +kernel
theorem dX5_carry_17 : decode cX5_carry 17 = .ok (.ifCond .ne 7, 3) := by decide +kernel
theorem dX5_carry_20 : decode cX5_carry 20 = .ok (.iconst 1, 1) := by decide +kernel
theorem dX5_carry_21 : decode cX5_carry 21 = .ok (.goto 20, 3) := by decide +kernel
theorem dX5_carry_24 : decode cX5_carry 24 = .ok (.aload_n 0, 1) := by decide +kernel
theorem dX5_carry_25 : decode cX5_carry 25 = .ok (.iload_n 1, 1) := by decide +kernel
theorem dX5_carry_26 : decode cX5_carry 26 = .ok (.iload_n 2, 1) := by decide +kernel
theorem dX5_carry_27 : decode cX5_carry 27 = .ok (.iload_n 3, 1) := by decide +kernel
theorem dX5_carry_28 : decode cX5_carry 28 = .ok (.iload 4, 2) := by decide +kernel
theorem dX5_carry_30 : decode cX5_carry 30 = .ok (.invokevirtual 107, 3) := by decide +kernel
theorem dX5_carry_33 : decode cX5_carry 33 = .ok (.ifCond .eq 7, 3) := by decide +kernel
theorem dX5_carry_36 : decode cX5_carry 36 = .ok (.iconst 0, 1) := by decide +kernel
theorem dX5_carry_37 : decode cX5_carry 37 = .ok (.goto 4, 3) := by decide +kernel
theorem dX5_carry_40 : decode cX5_carry 40 = .ok (.iconst 2, 1) := by decide +kernel
theorem dX5_carry_41 : decode cX5_carry 41 = .ok (.putfield 47, 3) := by decide +kernel
theorem dX5_carry_44 : decode cX5_carry 44 = .ok (.aload_n 0, 1) := by decide +kernel
theorem dX5_carry_45 : decode cX5_carry 45 = .ok (.getfield 47, 3) := by decide +kernel
theorem dX5_carry_48 : decode cX5_carry 48 = .ok (.ifCond .le 5, 3) := by decide +kernel
theorem dX5_carry_51 : decode cX5_carry 51 = .ok (.iconst 0, 1) := by decide +kernel
theorem dX5_carry_52 : decode cX5_carry 52 = .ok (.ireturn, 1) := by decide +kernel
theorem dX5_carry_53 : decode cX5_carry 53 = .ok (.aload_n 0, 1) := by decide +kernel
theorem dX5_carry_54 : decode cX5_carry 54 = .ok (.invokevirtual 92, 3) := by decide +kernel
theorem dX5_carry_57 : decode cX5_carry 57 = .ok (.aload_n 0, 1) := by decide +kernel
theorem dX5_carry_58 : decode cX5_carry 58 = .ok (.iload_n 1, 1) := by decide +kernel
theorem dX5_carry_59 : decode cX5_carry 59 = .ok (.iload_n 2, 1) := by decide +kernel
theorem dX5_carry_60 : decode cX5_carry 60 = .ok (.invokevirtual 66, 3) := by decide +kernel
theorem dX5_carry_63 : decode cX5_carry 63 = .ok (.istore 5, 2) := by decide +kernel
theorem dX5_carry_65 : decode cX5_carry 65 = .ok (.iconst 0, 1) := by decide +kernel
theorem dX5_carry_66 : decode cX5_carry 66 = .ok (.istore 6, 2) := by decide +kernel
theorem dX5_carry_68 : decode cX5_carry 68 = .ok (.iload 6, 2) := by decide +kernel
theorem dX5_carry_70 : decode cX5_carry 70 = .ok (.iload 5, 2) := by decide +kernel
theorem dX5_carry_72 : decode cX5_carry 72 = .ok (.if_icmp .ge 24, 3) := by decide +kernel
theorem dX5_carry_75 : decode cX5_carry 75 = .ok (.aload_n 0, 1) := by decide +kernel
theorem dX5_carry_76 : decode cX5_carry 76 = .ok (.iload_n 3, 1) := by decide +kernel
theorem dX5_carry_77 : decode cX5_carry 77 = .ok (.iload 4, 2) := by decide +kernel
theorem dX5_carry_79 : decode cX5_carry 79 = .ok (.aload_n 0, 1) := by decide +kernel
theorem dX5_carry_80 : decode cX5_carry 80 = .ok (.iload_n 1, 1) := by decide +kernel
theorem dX5_carry_81 : decode cX5_carry 81 = .ok (.iload_n 2, 1) := by decide +kernel
theorem dX5_carry_82 : decode cX5_carry 82 = .ok (.iload 6, 2) := by decide +kernel
theorem dX5_carry_84 : decode cX5_carry 84 = .ok (.invokevirtual 111, 3) := by decide +kernel
theorem dX5_carry_87 : decode cX5_carry 87 = .ok (.invokevirtual 101, 3) := by decide +kernel
theorem dX5_carry_90 : decode cX5_carry 90 = .ok (.iinc 6 1, 3) := by decide +kernel
theorem dX5_carry_93 : decode cX5_carry 93 = .ok (.goto (-25), 3) := by decide +kernel
theorem dX5_carry_96 : decode cX5_carry 96 = .ok (.iconst 0, 1) := by decide +kernel
theorem dX5_carry_97 : decode cX5_carry 97 = .ok (.istore 6, 2) := by decide +kernel
theorem dX5_carry_99 : decode cX5_carry 99 = .ok (.iload 6, 2) := by decide +kernel
theorem dX5_carry_101 : decode cX5_carry 101 = .ok (.iload 5, 2) := by decide +kernel
theorem dX5_carry_103 : decode cX5_carry 103 = .ok (.if_icmp .ge 16, 3) := by decide +kernel
theorem dX5_carry_106 : decode cX5_carry 106 = .ok (.aload_n 0, 1) := by decide +kernel
theorem dX5_carry_107 : decode cX5_carry 107 = .ok (.iload_n 1, 1) := by decide +kernel
theorem dX5_carry_108 : decode cX5_carry 108 = .ok (.iload_n 2, 1) := by decide +kernel
theorem dX5_carry_109 : decode cX5_carry 109 = .ok (.invokevirtual 104, 3) := by decide +kernel
theorem dX5_carry_112 : decode cX5_carry 112 = .ok (.pop, 1) := by decide +kernel
theorem dX5_carry_113 : decode cX5_carry 113 = .ok (.iinc 6 1, 3) := by decide +kernel
theorem dX5_carry_116 : decode cX5_carry 116 = .ok (.goto (-17), 3) := by decide +kernel
theorem dX5_carry_119 : decode cX5_carry 119 = .ok (.aload_n 0, 1) := by decide +kernel
theorem dX5_carry_120 : decode cX5_carry 120 = .ok (.iload_n 3, 1) := by decide +kernel
theorem dX5_carry_121 : decode cX5_carry 121 = .ok (.iload 4, 2) := by decide +kernel
theorem dX5_carry_123 : decode cX5_carry 123 = .ok (.invokevirtual 66, 3) := by decide +kernel
theorem dX5_carry_126 : decode cX5_carry 126 = .ok (.ireturn, 1) := by decide +kernel
set_option maxRecDepth 20000 in
theorem ggX5_paint_X5_isSquare : GoodIn wsX5_paint wsX5_isSquare := goodIn_r _ [6, 7, 8, 9, 5, 10, 32, 33, 34, 35, 36, 37, 38, 39, 40, 41, 42, 43, 44, 45, 46, 47, 48] (by decide +kernel) (by decide +kernel)
set_option maxRecDepth 20000 in
theorem gX5_paint_X5_isSquare : GoodIn wsX5_paint (wsV RX5 85 RX5 yX5_isSquare wsX5_isSquare) := goodIn_app (goodIn_of _ (by decide +kernel)) ggX5_paint_X5_isSquare
set_option maxRecDepth 20000 in
theorem ggX5_paint_X5_isColour : GoodIn wsX5_paint wsX5_isColour := goodIn_r _ [13, 8, 9, 5, 10] (by decide +kernel) (by decide +kernel)
set_option maxRecDepth 20000 in
theorem gX5_paint_X5_isColour : GoodIn wsX5_paint (va_wsS RX5 98 yX5_isColour wsX5_isColour) := goodIn_app (goodIn_of _ (by decide +kernel)) ggX5_paint_X5_isColour
set_option maxRecDepth 20000 in
theorem ggX5_paint_X5_height : GoodIn wsX5_paint wsX5_height := goodIn_r _ [17, 7, 32, 33, 34, 35, 36, 37, 38, 39, 40, 41, 42, 43, 44, 45, 46, 47, 48] (by decide +kernel) (by decide +kernel)
set_option maxRecDepth 20000 in
theorem gX5_paint_X5_height : GoodIn wsX5_paint (wsV RX5 66 RX5 yX5_height wsX5_height) := goodIn_app (goodIn_of _ (by decide +kernel)) ggX5_paint_X5_height
set_option maxRecDepth 20000 in
theorem ggX5_paint_X5_save : GoodIn wsX5_paint wsX5_save := goodIn_r _ [21, 22, 23, 7, 32, 33, 34, 35, 36, 37, 38, 39, 40, 41, 42, 43, 44, 45, 46, 47, 48] (by decide +kernel) (by decide +kernel)
set_option maxRecDepth 20000 in
theorem gX5_paint_X5_save : GoodIn wsX5_paint (wsV RX5 92 RX5 yX5_save wsX5_save) := goodIn_app (goodIn_of _ (by decide +kernel)) ggX5_paint_X5_save
set_option maxRecDepth 20000 in
theorem ggX5_paint_X5_takeFrom : GoodIn wsX5_paint wsX5_takeFrom := goodIn_r _ [27, 7, 14, 15, 16, 5, 17, 32, 33, 34, 35, 36, 37, 38, 39, 40, 41, 42, 43, 44, 45, 46, 47, 48] (by decide +kernel) (by decide +kernel)
set_option maxRecDepth 20000 in
theorem gX5_paint_X5_takeFrom : GoodIn wsX5_paint (wsV RX5 104 RX5 yX5_takeFrom wsX5_takeFrom) := goodIn_app (goodIn_of _ (by decide +kernel)) ggX5_paint_X5_takeFrom
set_option maxRecDepth 20000 in
theorem ggX5_paint_X5_putOn : GoodIn wsX5_paint wsX5_putOn := goodIn_r _ [31, 7, 14, 15, 16, 5, 17, 32, 33, 34, 35, 36, 37, 38, 39, 40, 41, 42, 43, 44, 45, 46, 47, 48] (by decide +kernel) (by decide +kernel)
set_option maxRecDepth 20000 in
theorem gX5_paint_X5_putOn : GoodIn wsX5_paint (wsV RX5 101 RX5 yX5_putOn wsX5_putOn) := goodIn_app (goodIn_of _ (by decide +kernel)) ggX5_paint_X5_putOn
theorem dX5_paint_0 : decode cX5_paint 0 = .ok (.aload_n 0, 1) := by decide +kernel
theorem dX5_paint_1 : decode cX5_paint 1 = .ok (.aload_n 0, 1) := by decide +kernel
theorem dX5_paint_2 : decode cX5_paint 2 = .ok (.iload_n 1, 1) := by decide +kernel
theorem dX5_paint_3 : decode cX5_paint 3 = .ok (.iload_n 2, 1) := by decide +kernel
theorem dX5_paint_4 : decode cX5_paint 4 = .ok (.invokevirtual 85, 3) := by decide +kernel
theorem dX5_paint_7 : decode cX5_paint 7 = .ok (.ifCond .ne 7, 3) := by decide +kernel
theorem dX5_paint_10 : decode cX5_paint 10 = .ok (.iconst 1, 1) := by decide +kernel
theorem dX5_paint_11 : decode cX5_paint 11 = .ok (.goto 28, 3) := by decide +kernel
theorem dX5_paint_14 : decode cX5_paint 14 = .ok (.iload_n 3, 1) := by decide +kernel
theorem dX5_paint_15 : decode cX5_paint 15 = .ok (.invokestatic 98, 3) := by decide +kernel
theorem dX5_paint_18 : decode cX5_paint 18 = .ok (.ifCond .ne 7, 3) := by decide +kernel
theorem dX5_paint_21 : decode cX5_paint 21 = .ok (.iconst 2, 1) := by decide +kernel
theorem dX5_paint_22 : decode cX5_paint 22 = .ok (.goto 17, 3) := by decide +kernel
theorem dX5_paint_25 : decode cX5_paint 25 = .ok (.aload_n 0, 1) := by decide +kernel
theorem dX5_paint_26 : decode cX5_paint 26 = .ok (.iload_n 1, 1) := by decide +kernel
theorem dX5_paint_27 : decode cX5_paint 27 = .ok (.iload_n 2, 1) := by decide +kernel
theorem dX5_paint_28 : decode cX5_paint 28 = .ok (.invokevirtual 66, 3) := by decide +kernel
theorem dX5_paint_31 : decode cX5_paint 31 = .ok (.ifCond .ne 7, 3) := by decide +kernel
theorem dX5_paint_34 : decode cX5_paint 34 = .ok (.iconst 3, 1) := by decide +kernel
theorem dX5_paint_35 : decode cX5_paint 35 = .ok (.goto 4, 3) := by decide +kernel
theorem dX5_paint_38 : decode cX5_paint 38 = .ok (.iconst 0, 1) := by decide +kernel
theorem dX5_paint_39 : decode cX5_paint 39 = .ok (.putfield 47, 3) := by decide +kernel
theorem dX5_paint_42 : decode cX5_paint 42 = .ok (.aload_n 0, 1) := by decide +kernel
theorem dX5_paint_43 : decode cX5_paint 43 = .ok (.getfield 47, 3) := by decide +kernel
theorem dX5_paint_46 : decode cX5_paint 46 = .ok (.ifCond .le 5, 3) := by decide +kernel
theorem dX5_paint_49 : decode cX5_paint 49 = .ok (.iconst 0, 1) := by decide +kernel
theorem dX5_paint_50 : decode cX5_paint 50 = .ok (.ireturn, 1) := by decide +kernel
theorem dX5_paint_51 : decode cX5_paint 51 = .ok (.aload_n 0, 1) := by decide +kernel
theorem dX5_paint_52 : decode cX5_paint 52 = .ok (.invokevirtual 92, 3) := by decide +kernel
theorem dX5_paint_55 : decode cX5_paint 55 = .ok (.aload_n 0, 1) := by decide +kernel
theorem dX5_paint_56 : decode cX5_paint 56 = .ok (.iload_n 1, 1) := by decide +kernel
theorem dX5_paint_57 : decode cX5_paint 57 = .ok (.iload_n 2, 1) := by decide +kernel
theorem dX5_paint_58 : decode cX5_paint 58 = .ok (.invokevirtual 104, 3) := by decide +kernel
theorem dX5_paint_61 : decode cX5_paint 61 = .ok (.istore 4, 2) := by decide +kernel
theorem dX5_paint_63 : decode cX5_paint 63 = .ok (.aload_n 0, 1) := by decide +kernel
theorem dX5_paint_64 : decode cX5_paint 64 = .ok (.iload_n 1, 1) := by decide +kernel
theorem dX5_paint_65 : decode cX5_paint 65 = .ok (.iload_n 2, 1) := by decide +kernel
theorem dX5_paint_66 : decode cX5_paint 66 = .ok (.iload_n 3, 1) := by decide +kernel
theorem dX5_paint_67 : decode cX5_paint 67 = .ok (.invokevirtual 101, 3) := by decide +kernel
theorem dX5_paint_70 : decode cX5_paint 70 = .ok (.iload 4, 2) := by decide +kernel
theorem dX5_paint_72 : decode cX5_paint 72 = .ok (.ireturn, 1) := by decide +kernel
set_option maxRecDepth 20000 in
theorem ggX5_turnIt_X5_clear : GoodIn wsX5_turnIt wsX5_clear := goodIn_r _ [7, 2, 16, 17, 18, 19, 20, 21, 22, 23, 24, 25, 26, 27, 28, 29, 30, 31, 32] (by decide +kernel) (by decide +kernel)
set_option maxRecDepth 20000 in
theorem gX5_turnIt_X5_clear : GoodIn wsX5_turnIt (wsV RX5 95 RX5 yX5_clear wsX5_clear) := goodIn_app (goodIn_of _ (by decide +kernel)) ggX5_turnIt_X5_clear
set_option maxRecDepth 20000 in
theorem ggX5_turnIt_X5_putOn : GoodIn wsX5_turnIt wsX5_putOn := goodIn_r _ [11, 2, 12, 13, 14, 6, 15, 16, 17, 18, 19, 20, 21, 22, 23, 24, 25, 26, 27, 28, 29, 30, 31, 32] (by decide +kernel) (by decide +kernel)
set_option maxRecDepth 20000 in
theorem gX5_turnIt_X5_putOn : GoodIn wsX5_turnIt (wsV RX5 101 RX5 yX5_putOn wsX5_putOn) := goodIn_app (goodIn_of _ (by decide +kernel)) ggX5_turnIt_X5_putOn
theorem dX5_turnIt_0 : decode cX5_turnIt 0 = .ok (.iconst 0, 1) := by decide +kernel
theorem dX5_turnIt_1 : decode cX5_turnIt 1 = .ok (.istore_n 1, 1) := by decide +kernel
theorem dX5_turnIt_2 : decode cX5_turnIt 2 = .ok (.iload_n 1, 1) := by decide +kernel
theorem dX5_turnIt_3 : decode cX5_turnIt 3 = .ok (.sipush 326, 3) := by decide +kernel
theorem dX5_turnIt_6 : decode cX5_turnIt 6 = .ok (.if_icmp .ge 21, 3) := by decide +kernel
theorem dX5_turnIt_9 : decode cX5_turnIt 9 = .ok (.aload_n 0, 1) := by decide +kernel
theorem dX5_turnIt_10 : decode cX5_turnIt 10 = .ok (.getfield 16, 3) := by decide +kernel
theorem dX5_turnIt_13 : decode cX5_turnIt 13 = .ok (.iload_n 1, 1) := by decide +kernel
theorem dX5_turnIt_14 : decode cX5_turnIt 14 = .ok (.aload_n 0, 1) := by decide +kernel
theorem dX5_turnIt_15 : decode cX5_turnIt 15 = .ok (.getfield 7, 3) := by decide +kernel
theorem dX5_turnIt_18 : decode cX5_turnIt 18 = .ok (.iload_n 1, 1) := by decide +kernel
theorem dX5_turnIt_19 : decode cX5_turnIt 19 = .ok (.iaload, 1) := by decide +kernel
theorem dX5_turnIt_20 : decode cX5_turnIt 20 = .ok (.iastore, 1) := by decide +kernel
theorem dX5_turnIt_21 : decode cX5_turnIt 21 = .ok (.iinc 1 1, 3) := by decide +kernel
theorem dX5_turnIt_24 : decode cX5_turnIt 24 = .ok (.goto (-22), 3) := by decide +kernel
theorem dX5_turnIt_27 : decode cX5_turnIt 27 = .ok (.aload_n 0, 1) := by decide +kernel
theorem dX5_turnIt_28 : decode cX5_turnIt 28 = .ok (.invokevirtual 95, 3) := by decide +kernel
theorem dX5_turnIt_31 : decode cX5_turnIt 31 = .ok (.aload_n 0, 1) := by decide +kernel
theorem dX5_turnIt_32 : decode cX5_turnIt 32 = .ok (.getfield 7, 3) := by decide +kernel
theorem dX5_turnIt_35 : decode cX5_turnIt 35 = .ok (.iconst 0, 1) := by decide +kernel
theorem dX5_turnIt_36 : decode cX5_turnIt 36 = .ok (.iaload, 1) := by decide +kernel
theorem dX5_turnIt_37 : decode cX5_turnIt 37 = .ok (.istore_n 1, 1) := by decide +kernel
theorem dX5_turnIt_38 : decode cX5_turnIt 38 = .ok (.iconst 0, 1) := by decide +kernel
theorem dX5_turnIt_39 : decode cX5_turnIt 39 = .ok (.istore_n 2, 1) := by decide +kernel
theorem dX5_turnIt_40 : decode cX5_turnIt 40 = .ok (.iload_n 2, 1) := by decide +kernel
theorem dX5_turnIt_41 : decode cX5_turnIt 41 = .ok (.iload_n 1, 1) := by decide +kernel
theorem dX5_turnIt_42 : decode cX5_turnIt 42 = .ok (.iload_n 1, 1) := by decide +kernel
theorem dX5_turnIt_43 : decode cX5_turnIt 43 = .ok (.imul, 1) := by decide +kernel
theorem dX5_turnIt_44 : decode cX5_turnIt 44 = .ok (.if_icmp .ge 79, 3) := by decide +kernel
theorem dX5_turnIt_47 : decode cX5_turnIt 47 = .ok (.bipush 6, 2) := by decide +kernel
theorem dX5_turnIt_49 : decode cX5_turnIt 49 = .ok (.iload_n 2, 1) := by decide +kernel
theorem dX5_turnIt_50 : decode cX5_turnIt 50 = .ok (.iload_n 1, 1) := by decide +kernel
theorem dX5_turnIt_51 : decode cX5_turnIt 51 = .ok (.idiv, 1) := by decide +kernel
theorem dX5_turnIt_52 : decode cX5_turnIt 52 = .ok (.imul, 1) := by decide +kernel
theorem dX5_turnIt_53 : decode cX5_turnIt 53 = .ok (.iload_n 2, 1) := by decide +kernel
theorem dX5_turnIt_54 : decode cX5_turnIt 54 = .ok (.iload_n 1, 1) := by decide +kernel
theorem dX5_turnIt_55 : decode cX5_turnIt 55 = .ok (.irem, 1) := by decide +kernel
theorem dX5_turnIt_56 : decode cX5_turnIt 56 = .ok (.iadd, 1) := by decide +kernel
theorem dX5_turnIt_57 : decode cX5_turnIt 57 = .ok (.istore_n 3, 1) := by decide +kernel
theorem dX5_turnIt_58 : decode cX5_turnIt 58 = .ok (.iload_n 1, 1) := by decide +kernel
theorem dX5_turnIt_59 : decode cX5_turnIt 59 = .ok (.iconst 1, 1) := by decide +kernel
theorem dX5_turnIt_60 : decode cX5_turnIt 60 = .ok (.isub, 1) := by decide +kernel
theorem dX5_turnIt_61 : decode cX5_turnIt 61 = .ok (.iload_n 2, 1) := by decide +kernel
theorem dX5_turnIt_62 : decode cX5_turnIt 62 = .ok (.iload_n 1, 1) := by decide +kernel
theorem dX5_turnIt_63 : decode cX5_turnIt 63 = .ok (.idiv, 1) := by decide +kernel
theorem dX5_turnIt_64 : decode cX5_turnIt 64 = .ok (.isub, 1) := by decide +kernel
theorem dX5_turnIt_65 : decode cX5_turnIt 65 = .ok (.istore 4, 2) := by decide +kernel
theorem dX5_turnIt_67 : decode cX5_turnIt 67 = .ok (.iload_n 2, 1) := by decide +kernel
theorem dX5_turnIt_68 : decode cX5_turnIt 68 = .ok (.iload_n 1, 1) := by decide +kernel
theorem dX5_turnIt_69 : decode cX5_turnIt 69 = .ok (.irem, 1) := by decide +kernel
theorem dX5_turnIt_70 : decode cX5_turnIt 70 = .ok (.istore 5, 2) := by decide +kernel
theorem dX5_turnIt_72 : decode cX5_turnIt 72 = .ok (.iconst 0, 1) := by decide +kernel
theorem dX5_turnIt_73 : decode cX5_turnIt 73 = .ok (.istore 6, 2) := by decide +kernel
theorem dX5_turnIt_75 : decode cX5_turnIt 75 = .ok (.iload 6, 2) := by decide +kernel
theorem dX5_turnIt_77 : decode cX5_turnIt 77 = .ok (.aload_n 0, 1) := by decide +kernel
theorem dX5_turnIt_78 : decode cX5_turnIt 78 = .ok (.getfield 16, 3) := by decide +kernel
theorem dX5_turnIt_81 : decode cX5_turnIt 81 = .ok (.iconst 2, 1) := by decide +kernel
theorem dX5_turnIt_82 : decode cX5_turnIt 82 = .ok (.iload_n 3, 1) := by decide +kernel
theorem dX5_turnIt_83 : decode cX5_turnIt 83 = .ok (.iadd, 1) := by decide +kernel
theorem dX5_turnIt_84 : decode cX5_turnIt 84 = .ok (.iaload, 1) := by decide +kernel
theorem dX5_turnIt_85 : decode cX5_turnIt 85 = .ok (.if_icmp .ge 32, 3) := by decide +kernel
theorem dX5_turnIt_88 : decode cX5_turnIt 88 = .ok (.aload_n 0, 1) := by decide +kernel
theorem dX5_turnIt_89 : decode cX5_turnIt 89 = .ok (.iload 4, 2) := by decide +kernel
theorem dX5_turnIt_91 : decode cX5_turnIt 91 = .ok (.iload 5, 2) := by decide +kernel
theorem dX5_turnIt_93 : decode cX5_turnIt 93 = .ok (.aload_n 0, 1) := by decide +kernel
theorem dX5_turnIt_94 : decode cX5_turnIt 94 = .ok (.getfield 16, 3) := by decide +kernel
theorem dX5_turnIt_97 : decode cX5_turnIt 97 = .ok (.bipush 38, 2) := by decide +kernel
theorem dX5_turnIt_99 : decode cX5_turnIt 99 = .ok (.bipush 8, 2) := by decide +kernel
theorem dX5_turnIt_101 : decode cX5_turnIt 101 = .ok (.iload_n 3, 1) := by decide +kernel
theorem dX5_turnIt_102 : decode cX5_turnIt 102 = .ok (.imul, 1) := by decide +kernel
theorem dX5_turnIt_103 : decode cX5_turnIt 103 = .ok (.iadd, 1) := by decide +kernel
theorem dX5_turnIt_104 : decode cX5_turnIt 104 = .ok (.iload 6, 2) := by decide +kernel
theorem dX5_turnIt_106 : decode cX5_turnIt 106 = .ok (.iadd, 1) := by decide +kernel
theorem dX5_turnIt_107 : decode cX5_turnIt 107 = .ok (.iaload, 1) := by decide +kernel
theorem dX5_turnIt_108 : decode cX5_turnIt 108 = .ok (.invokevirtual 101, 3) := by decide +kernel
theorem dX5_turnIt_111 : decode cX5_turnIt 111 = .ok (.iinc 6 1, 3) := by decide +kernel
theorem dX5_turnIt_114 : decode cX5_turnIt 114 = .ok (.goto (-39), 3) := by decide +kernel
theorem dX5_turnIt_117 : decode cX5_turnIt 117 = .ok (.iinc 2 1, 3) := by decide +kernel
theorem dX5_turnIt_120 : decode cX5_turnIt 120 = .ok (.goto (-80), 3) := by decide +kernel
theorem dX5_turnIt_123 : decode cX5_turnIt 123 = .ok (.return_, 1) := by decide +kernel
set_option maxRecDepth 20000 in
theorem ggX5_turn_X5_save : GoodIn wsX5_turn wsX5_save := goodIn_r _ [6, 7, 8, 9, 58, 59, 60, 61, 62, 63, 64, 65, 66, 67, 68, 69, 70, 71, 72, 73, 74] (by decide +kernel) (by decide +kernel)
set_option maxRecDepth 20000 in
theorem gX5_turn_X5_save : GoodIn wsX5_turn (wsV RX5 92 RX5 yX5_save wsX5_save) := goodIn_app (goodIn_of _ (by decide +kernel)) ggX5_turn_X5_save
set_option maxRecDepth 20000 in
theorem ggX5_turn_X5_turnIt : GoodIn wsX5_turn wsX5_turnIt := goodIn_r _ [13, 14, 9, 15, 16, 17, 5, 18, 19, 20, 21, 22, 23, 24, 25, 26, 58, 59, 60, 61, 62, 63, 64, 65, 66, 67, 68, 69, 70, 71, 72, 73, 74] (by decide +kernel) (by decide +kernel)
set_option maxRecDepth 20000 in
theorem gX5_turn_X5_turnIt : GoodIn wsX5_turn (wsV RX5 114 RX5 yX5_turnIt wsX5_turnIt) := goodIn_app (goodIn_of _ (by decide +kernel)) ggX5_turn_X5_turnIt
set_option maxRecDepth 20000 in
theorem ggX5_turn_X5_seenNow : GoodIn wsX5_turn wsX5_seenNow := goodIn_r _ [30, 31, 32, 33, 5, 34, 35, 36, 9, 37, 23, 24, 25, 26, 38, 39, 40, 41, 42, 43, 44, 45, 46, 47, 48, 49, 50, 51, 52, 53, 54, 55, 56, 57, 58, 59, 60, 61, 62, 63, 64, 65, 66, 67, 68, 69, 70, 71, 72, 73, 74] (by decide +kernel) (by decide +kernel)
set_option maxRecDepth 20000 in
theorem gX5_turn_X5_seenNow : GoodIn wsX5_turn (wsV RX5 117 RX5 yX5_seenNow wsX5_seenNow) := goodIn_app (goodIn_of _ (by decide +kernel)) ggX5_turn_X5_seenNow
theorem dX5_turn_0 : decode cX5_turn 0 = .ok (.aload_n 0, 1) := by decide +kernel
theorem dX5_turn_1 : decode cX5_turn 1 = .ok (.iconst 0, 1) := by decide +kernel
theorem dX5_turn_2 : decode cX5_turn 2 = .ok (.putfield 47, 3) := by decide +kernel
theorem dX5_turn_5 : decode cX5_turn 5 = .ok (.aload_n 0, 1) := by decide +kernel
theorem dX5_turn_6 : decode cX5_turn 6 = .ok (.invokevirtual 92, 3) := by decide +kernel
theorem dX5_turn_9 : decode cX5_turn 9 = .ok (.aload_n 0, 1) := by decide +kernel
theorem dX5_turn_10 : decode cX5_turn 10 = .ok (.invokevirtual 114, 3) := by decide +kernel
theorem dX5_turn_13 : decode cX5_turn 13 = .ok (.aload_n 0, 1) := by decide +kernel
theorem dX5_turn_14 : decode cX5_turn 14 = .ok (.invokevirtual 117, 3) := by decide +kernel
theorem dX5_turn_17 : decode cX5_turn 17 = .ok (.ireturn, 1) := by decide +kernel
set_option maxRecDepth 20000 in
theorem ggX5_cutOff_X5_in : GoodIn wsX5_cutOff wsX5_in := goodIn_r _ [6] (by decide +kernel) (by decide +kernel)
set_option maxRecDepth 20000 in
theorem gX5_cutOff_X5_in : GoodIn wsX5_cutOff (va_wsS RX5 51 yX5_in wsX5_in) := goodIn_app (goodIn_of _ (by decide +kernel)) ggX5_cutOff_X5_in
set_option maxRecDepth 20000 in
theorem ggX5_cutOff_X5_save : GoodIn wsX5_cutOff wsX5_save := goodIn_r _ [10, 11, 12, 2, 21, 22, 23, 24, 25, 26, 27, 28, 29, 30, 31, 32, 33, 34, 35, 36, 37] (by decide +kernel) (by decide +kernel)
set_option maxRecDepth 20000 in
theorem gX5_cutOff_X5_save : GoodIn wsX5_cutOff (wsV RX5 92 RX5 yX5_save wsX5_save) := goodIn_app (goodIn_of _ (by decide +kernel)) ggX5_cutOff_X5_save
set_option maxRecDepth 20000 in
theorem ggX5_cutOff_X5_takeFrom : GoodIn wsX5_cutOff wsX5_takeFrom := goodIn_r _ [16, 2, 17, 18, 19, 5, 20, 21, 22, 23, 24, 25, 26, 27, 28, 29, 30, 31, 32, 33, 34, 35, 36, 37] (by decide +kernel) (by decide +kernel)
set_option maxRecDepth 20000 in
theorem gX5_cutOff_X5_takeFrom : GoodIn wsX5_cutOff (wsV RX5 104 RX5 yX5_takeFrom wsX5_takeFrom) := goodIn_app (goodIn_of _ (by decide +kernel)) ggX5_cutOff_X5_takeFrom
theorem dX5_cutOff_0 : decode cX5_cutOff 0 = .ok (.aload_n 0, 1) := by decide +kernel
theorem dX5_cutOff_1 : decode cX5_cutOff 1 = .ok (.iload_n 1, 1) := by decide +kernel
theorem dX5_cutOff_2 : decode cX5_cutOff 2 = .ok (.iconst 0, 1) := by decide +kernel
theorem dX5_cutOff_3 : decode cX5_cutOff 3 = .ok (.bipush 8, 2) := by decide +kernel
theorem dX5_cutOff_5 : decode cX5_cutOff 5 = .ok (.invokestatic 51, 3) := by decide +kernel
theorem dX5_cutOff_8 : decode cX5_cutOff 8 = .ok (.ifCond .eq 7, 3) := by decide +kernel
theorem dX5_cutOff_11 : decode cX5_cutOff 11 = .ok (.iconst 0, 1) := by decide +kernel
theorem dX5_cutOff_12 : decode cX5_cutOff 12 = .ok (.goto 4, 3) := by decide +kernel
theorem dX5_cutOff_15 : decode cX5_cutOff 15 = .ok (.iconst 1, 1) := by decide +kernel
theorem dX5_cutOff_16 : decode cX5_cutOff 16 = .ok (.putfield 47, 3) := by decide +kernel
theorem dX5_cutOff_19 : decode cX5_cutOff 19 = .ok (.aload_n 0, 1) := by decide +kernel
theorem dX5_cutOff_20 : decode cX5_cutOff 20 = .ok (.getfield 47, 3) := by decide +kernel
theorem dX5_cutOff_23 : decode cX5_cutOff 23 = .ok (.ifCond .le 5, 3) := by decide +kernel
theorem dX5_cutOff_26 : decode cX5_cutOff 26 = .ok (.iconst 0, 1) := by decide +kernel
theorem dX5_cutOff_27 : decode cX5_cutOff 27 = .ok (.ireturn, 1) := by decide +kernel
theorem dX5_cutOff_28 : decode cX5_cutOff 28 = .ok (.aload_n 0, 1) := by decide +kernel
theorem dX5_cutOff_29 : decode cX5_cutOff 29 = .ok (.invokevirtual 92, 3) := by decide +kernel
theorem dX5_cutOff_32 : decode cX5_cutOff 32 = .ok (.iconst 0, 1) := by decide +kernel
theorem dX5_cutOff_33 : decode cX5_cutOff 33 = .ok (.istore_n 2, 1) := by decide +kernel
theorem dX5_cutOff_34 : decode cX5_cutOff 34 = .ok (.iconst 0, 1) := by decide +kernel
theorem dX5_cutOff_35 : decode cX5_cutOff 35 = .ok (.istore_n 3, 1) := by decide +kernel
theorem dX5_cutOff_36 : decode cX5_cutOff 36 = .ok (.iload_n 3, 1) := by decide +kernel
theorem dX5_cutOff_37 : decode cX5_cutOff 37 = .ok (.bipush 36, 2) := by decide +kernel
theorem dX5_cutOff_39 : decode cX5_cutOff 39 = .ok (.if_icmp .ge 40, 3) := by decide +kernel
theorem dX5_cutOff_42 : decode cX5_cutOff 42 = .ok (.aload_n 0, 1) := by decide +kernel
theorem dX5_cutOff_43 : decode cX5_cutOff 43 = .ok (.getfield 7, 3) := by decide +kernel
theorem dX5_cutOff_46 : decode cX5_cutOff 46 = .ok (.iconst 2, 1) := by decide +kernel
theorem dX5_cutOff_47 : decode cX5_cutOff 47 = .ok (.iload_n 3, 1) := by decide +kernel
theorem dX5_cutOff_48 : decode cX5_cutOff 48 = .ok (.iadd, 1) := by decide +kernel
theorem dX5_cutOff_49 : decode cX5_cutOff 49 = .ok (.iaload, 1) := by decide +kernel
theorem dX5_cutOff_50 : decode cX5_cutOff 50 = .ok (.iload_n 1, 1) := by decide +kernel
theorem dX5_cutOff_51 : decode cX5_cutOff 51 = .ok (.if_icmp .le 22, 3) := by decide +kernel
theorem dX5_cutOff_54 : decode cX5_cutOff 54 = .ok (.aload_n 0, 1) := by decide +kernel
theorem dX5_cutOff_55 : decode cX5_cutOff 55 = .ok (.iload_n 3, 1) := by decide +kernel
theorem dX5_cutOff_56 : decode cX5_cutOff 56 = .ok (.bipush 6, 2) := by decide +kernel
theorem dX5_cutOff_58 : decode cX5_cutOff 58 = .ok (.irem, 1) := by decide +kernel
theorem dX5_cutOff_59 : decode cX5_cutOff 59 = .ok (.iload_n 3, 1) := by decide +kernel
theorem dX5_cutOff_60 : decode cX5_cutOff 60 = .ok (.bipush 6, 2) := by decide +kernel
theorem dX5_cutOff_62 : decode cX5_cutOff 62 = .ok (.idiv, 1) := by decide +kernel
theorem dX5_cutOff_63 : decode cX5_cutOff 63 = .ok (.invokevirtual 104, 3) := by decide +kernel
theorem dX5_cutOff_66 : decode cX5_cutOff 66 = .ok (.pop, 1) := by decide +kernel
theorem dX5_cutOff_67 : decode cX5_cutOff 67 = .ok (.iinc 2 1, 3) := by decide +kernel
theorem dX5_cutOff_70 : decode cX5_cutOff 70 = .ok (.goto (-28), 3) := by decide +kernel
theorem dX5_cutOff_73 : decode cX5_cutOff 73 = .ok (.iinc 3 1, 3) := by decide +kernel
theorem dX5_cutOff_76 : decode cX5_cutOff 76 = .ok (.goto (-40), 3) := by decide +kernel
theorem dX5_cutOff_79 : decode cX5_cutOff 79 = .ok (.iload_n 2, 1) := by decide +kernel
theorem dX5_cutOff_80 : decode cX5_cutOff 80 = .ok (.ireturn, 1) := by decide +kernel
set_option maxRecDepth 20000 in
theorem ggX5_hour_X5_in : GoodIn wsX5_hour wsX5_in := goodIn_r _ [6] (by decide +kernel) (by decide +kernel)
set_option maxRecDepth 20000 in
theorem gX5_hour_X5_in : GoodIn wsX5_hour (va_wsS RX5 51 yX5_in wsX5_in) := goodIn_app (goodIn_of _ (by decide +kernel)) ggX5_hour_X5_in
set_option maxRecDepth 20000 in
theorem ggX5_hour_X5_save : GoodIn wsX5_hour wsX5_save := goodIn_r _ [10, 11, 12, 2, 13, 14, 15, 16, 17, 18, 19, 20, 21, 22, 23, 24, 25, 26, 27, 28, 29] (by decide +kernel) (by decide +kernel)
set_option maxRecDepth 20000 in
theorem gX5_hour_X5_save : GoodIn wsX5_hour (wsV RX5 92 RX5 yX5_save wsX5_save) := goodIn_app (goodIn_of _ (by decide +kernel)) ggX5_hour_X5_save
theorem dX5_hour_0 : decode cX5_hour 0 = .ok (.aload_n 0, 1) := by decide +kernel
theorem dX5_hour_1 : decode cX5_hour 1 = .ok (.iload_n 1, 1) := by decide +kernel
theorem dX5_hour_2 : decode cX5_hour 2 = .ok (.iconst 0, 1) := by decide +kernel
theorem dX5_hour_3 : decode cX5_hour 3 = .ok (.bipush 7, 2) := by decide +kernel
theorem dX5_hour_5 : decode cX5_hour 5 = .ok (.invokestatic 51, 3) := by decide +kernel
theorem dX5_hour_8 : decode cX5_hour 8 = .ok (.ifCond .eq 7, 3) := by decide +kernel
theorem dX5_hour_11 : decode cX5_hour 11 = .ok (.iconst 0, 1) := by decide +kernel
theorem dX5_hour_12 : decode cX5_hour 12 = .ok (.goto 4, 3) := by decide +kernel
theorem dX5_hour_15 : decode cX5_hour 15 = .ok (.iconst 1, 1) := by decide +kernel
theorem dX5_hour_16 : decode cX5_hour 16 = .ok (.putfield 47, 3) := by decide +kernel
theorem dX5_hour_19 : decode cX5_hour 19 = .ok (.aload_n 0, 1) := by decide +kernel
theorem dX5_hour_20 : decode cX5_hour 20 = .ok (.getfield 47, 3) := by decide +kernel
theorem dX5_hour_23 : decode cX5_hour 23 = .ok (.ifCond .le 5, 3) := by decide +kernel
theorem dX5_hour_26 : decode cX5_hour 26 = .ok (.iconst 0, 1) := by decide +kernel
theorem dX5_hour_27 : decode cX5_hour 27 = .ok (.ireturn, 1) := by decide +kernel
theorem dX5_hour_28 : decode cX5_hour 28 = .ok (.aload_n 0, 1) := by decide +kernel
theorem dX5_hour_29 : decode cX5_hour 29 = .ok (.invokevirtual 92, 3) := by decide +kernel
theorem dX5_hour_32 : decode cX5_hour 32 = .ok (.aload_n 0, 1) := by decide +kernel
theorem dX5_hour_33 : decode cX5_hour 33 = .ok (.getfield 7, 3) := by decide +kernel
theorem dX5_hour_36 : decode cX5_hour 36 = .ok (.iconst 1, 1) := by decide +kernel
theorem dX5_hour_37 : decode cX5_hour 37 = .ok (.iaload, 1) := by decide +kernel
theorem dX5_hour_38 : decode cX5_hour 38 = .ok (.istore_n 2, 1) := by decide +kernel
theorem dX5_hour_39 : decode cX5_hour 39 = .ok (.aload_n 0, 1) := by decide +kernel
theorem dX5_hour_40 : decode cX5_hour 40 = .ok (.getfield 7, 3) := by decide +kernel
theorem dX5_hour_43 : decode cX5_hour 43 = .ok (.iconst 1, 1) := by decide +kernel
theorem dX5_hour_44 : decode cX5_hour 44 = .ok (.iload_n 1, 1) := by decide +kernel
theorem dX5_hour_45 : decode cX5_hour 45 = .ok (.iastore, 1) := by decide +kernel
theorem dX5_hour_46 : decode cX5_hour 46 = .ok (.iload_n 2, 1) := by decide +kernel
theorem dX5_hour_47 : decode cX5_hour 47 = .ok (.ireturn, 1) := by decide +kernel
set_option maxRecDepth 20000 in
theorem ggX5_append_X5_in : GoodIn wsX5_append wsX5_in := goodIn_r _ [7] (by decide +kernel) (by decide +kernel)
set_option maxRecDepth 20000 in
theorem gX5_append_X5_in : GoodIn wsX5_append (va_wsS RX5 51 yX5_in wsX5_in) := goodIn_app (goodIn_of _ (by decide +kernel)) ggX5_append_X5_in
theorem dX5_append_0 : decode cX5_append 0 = .ok (.aload_n 0, 1) := by decide +kernel
theorem dX5_append_1 : decode cX5_append 1 = .ok (.iload_n 1, 1) := by decide +kernel
theorem dX5_append_2 : decode cX5_append 2 = .ok (.bipush 33, 2) := by decide +kernel
theorem dX5_append_4 : decode cX5_append 4 = .ok (.bipush 126, 2) := by decide +kernel
theorem dX5_append_6 : decode cX5_append 6 = .ok (.invokestatic 51, 3) := by decide +kernel
theorem dX5_append_9 : decode cX5_append 9 = .ok (.ifCond .ne 7, 3) := by decide +kernel
theorem dX5_append_12 : decode cX5_append 12 = .ok (.iconst 1, 1) := by decide +kernel
theorem dX5_append_13 : decode cX5_append 13 = .ok (.goto 17, 3) := by decide +kernel
theorem dX5_append_16 : decode cX5_append 16 = .ok (.aload_n 0, 1) := by decide +kernel
theorem dX5_append_17 : decode cX5_append 17 = .ok (.getfield 120, 3) := by decide +kernel
theorem dX5_append_20 : decode cX5_append 20 = .ok (.bipush 60, 2) := by decide +kernel
theorem dX5_append_22 : decode cX5_append 22 = .ok (.if_icmp .ne 7, 3) := by decide +kernel
theorem dX5_append_25 : decode cX5_append 25 = .ok (.iconst 2, 1) := by decide +kernel
theorem dX5_append_26 : decode cX5_append 26 = .ok (.goto 4, 3) := by decide +kernel
theorem dX5_append_29 : decode cX5_append 29 = .ok (.iconst 0, 1) := by decide +kernel
theorem dX5_append_30 : decode cX5_append 30 = .ok (.putfield 47, 3) := by decide +kernel
theorem dX5_append_33 : decode cX5_append 33 = .ok (.aload_n 0, 1) := by decide +kernel
theorem dX5_append_34 : decode cX5_append 34 = .ok (.getfield 47, 3) := by decide +kernel
theorem dX5_append_37 : decode cX5_append 37 = .ok (.ifCond .le 5, 3) := by decide +kernel
theorem dX5_append_40 : decode cX5_append 40 = .ok (.iconst 0, 1) := by decide +kernel
theorem dX5_append_41 : decode cX5_append 41 = .ok (.ireturn, 1) := by decide +kernel
theorem dX5_append_42 : decode cX5_append 42 = .ok (.aload_n 0, 1) := by decide +kernel
theorem dX5_append_43 : decode cX5_append 43 = .ok (.getfield 19, 3) := by decide +kernel
theorem dX5_append_46 : decode cX5_append 46 = .ok (.aload_n 0, 1) := by decide +kernel
theorem dX5_append_47 : decode cX5_append 47 = .ok (.getfield 120, 3) := by decide +kernel
theorem dX5_append_50 : decode cX5_append 50 = .ok (.iload_n 1, 1) := by decide +kernel
theorem dX5_append_51 : decode cX5_append 51 = .ok (.iastore, 1) := by decide +kernel
theorem dX5_append_52 : decode cX5_append 52 = .ok (.aload_n 0, 1) := by decide +kernel
theorem dX5_append_53 : decode cX5_append 53 = .ok (.dup, 1) := by decide +kernel
theorem dX5_append_54 : decode cX5_append 54 = .ok (.getfield 120, 3) := by decide +kernel
theorem dX5_append_57 : decode cX5_append 57 = .ok (.iconst 1, 1) := by decide +kernel
theorem dX5_append_58 : decode cX5_append 58 = .ok (.iadd, 1) := by decide +kernel
theorem dX5_append_59 : decode cX5_append 59 = .ok (.putfield 120, 3) := by decide +kernel
theorem dX5_append_62 : decode cX5_append 62 = .ok (.aload_n 0, 1) := by decide +kernel
theorem dX5_append_63 : decode cX5_append 63 = .ok (.getfield 120, 3) := by decide +kernel
theorem dX5_append_66 : decode cX5_append 66 = .ok (.ireturn, 1) := by decide +kernel
theorem dX5_clearBuffer_0 : decode cX5_clearBuffer 0 = .ok (.aload_n 0, 1) := by decide +kernel
theorem dX5_clearBuffer_1 : decode cX5_clearBuffer 1 = .ok (.iconst 0, 1) := by decide +kernel
theorem dX5_clearBuffer_2 : decode cX5_clearBuffer 2 = .ok (.putfield 47, 3) := by decide +kernel
theorem dX5_clearBuffer_5 : decode cX5_clearBuffer 5 = .ok (.aload_n 0, 1) := by decide +kernel
theorem dX5_clearBuffer_6 : decode cX5_clearBuffer 6 = .ok (.getfield 120, 3) := by decide +kernel
theorem dX5_clearBuffer_9 : decode cX5_clearBuffer 9 = .ok (.istore_n 1, 1) := by decide +kernel
theorem dX5_clearBuffer_10 : decode cX5_clearBuffer 10 = .ok (.aload_n 0, 1) := by decide +kernel
theorem dX5_clearBuffer_11 : decode cX5_clearBuffer 11 = .ok (.iconst 0, 1) := by decide +kernel
theorem dX5_clearBuffer_12 : decode cX5_clearBuffer 12 = .ok (.putfield 120, 3) := by decide +kernel
theorem dX5_clearBuffer_15 : decode cX5_clearBuffer 15 = .ok (.iload_n 1, 1) := by decide +kernel
theorem dX5_clearBuffer_16 : decode cX5_clearBuffer 16 = .ok (.ireturn, 1) := by decide +kernel
theorem dX5_goesTo_0 : decode cX5_goesTo 0 = .ok (.aload_n 0, 1) := by decide +kernel
theorem dX5_goesTo_1 : decode cX5_goesTo 1 = .ok (.iload_n 2, 1) := by decide +kernel
theorem dX5_goesTo_2 : decode cX5_goesTo 2 = .ok (.putfield 123, 3) := by decide +kernel
theorem dX5_goesTo_5 : decode cX5_goesTo 5 = .ok (.iload_n 1, 1) := by decide +kernel
theorem dX5_goesTo_6 : decode cX5_goesTo 6 = .ok (.ireturn, 1) := by decide +kernel
set_option maxRecDepth 20000 in
theorem ggX5_stands_X5_in : GoodIn wsX5_stands wsX5_in := goodIn_r _ [5] (by decide +kernel) (by decide +kernel)
set_option maxRecDepth 20000 in
theorem gX5_stands_X5_in : GoodIn wsX5_stands (va_wsS RX5 51 yX5_in wsX5_in) := goodIn_app (goodIn_of _ (by decide +kernel)) ggX5_stands_X5_in
set_option maxRecDepth 20000 in
theorem ggX5_stands_X5_goesTo : GoodIn wsX5_stands wsX5_goesTo := goodIn_r _ [9, 1, 10, 11, 12, 13, 14, 15, 16, 17, 18, 19, 20, 21, 22, 23, 24, 25, 26] (by decide +kernel) (by decide +kernel)
set_option maxRecDepth 20000 in
theorem gX5_stands_X5_goesTo : GoodIn wsX5_stands (wsV RX5 126 RX5 yX5_goesTo wsX5_goesTo) := goodIn_app (goodIn_of _ (by decide +kernel)) ggX5_stands_X5_goesTo
theorem dX5_stands_0 : decode cX5_stands 0 = .ok (.aload_n 0, 1) := by decide +kernel
theorem dX5_stands_1 : decode cX5_stands 1 = .ok (.getfield 123, 3) := by decide +kernel
theorem dX5_stands_4 : decode cX5_stands 4 = .ok (.tableswitch 168 0 5 #[40, 54, 68, 101, 115, 153], 40) := by decide +kernel
theorem dX5_stands_44 : decode cX5_stands 44 = .ok (.aload_n 0, 1) := by decide +kernel
theorem dX5_stands_45 : decode cX5_stands 45 = .ok (.iload_n 1, 1) := by decide +kernel
theorem dX5_stands_46 : decode cX5_stands 46 = .ok (.bipush 48, 2) := by decide +kernel
theorem dX5_stands_48 : decode cX5_stands 48 = .ok (.bipush 53, 2) := by decide +kernel
theorem dX5_stands_50 : decode cX5_stands 50 = .ok (.invokestatic 51, 3) := by decide +kernel
theorem dX5_stands_53 : decode cX5_stands 53 = .ok (.iconst 1, 1) := by decide +kernel
theorem dX5_stands_54 : decode cX5_stands 54 = .ok (.invokevirtual 126, 3) := by decide +kernel
theorem dX5_stands_57 : decode cX5_stands 57 = .ok (.ireturn, 1) := by decide +kernel
theorem dX5_stands_58 : decode cX5_stands 58 = .ok (.aload_n 0, 1) := by decide +kernel
theorem dX5_stands_59 : decode cX5_stands 59 = .ok (.iload_n 1, 1) := by decide +kernel
theorem dX5_stands_60 : decode cX5_stands 60 = .ok (.bipush 48, 2) := by decide +kernel
theorem dX5_stands_62 : decode cX5_stands 62 = .ok (.bipush 53, 2) := by decide +kernel
theorem dX5_stands_64 : decode cX5_stands 64 = .ok (.invokestatic 51, 3) := by decide +kernel
theorem dX5_stands_67 : decode cX5_stands 67 = .ok (.iconst 2, 1) := by decide +kernel
theorem dX5_stands_68 : decode cX5_stands 68 = .ok (.invokevirtual 126, 3) := by decide +kernel
theorem dX5_stands_71 : decode cX5_stands 71 = .ok (.ireturn, 1) := by decide +kernel
theorem dX5_stands_72 : decode cX5_stands 72 = .ok (.aload_n 0, 1) := by decide +kernel
theorem dX5_stands_73 : decode cX5_stands 73 = .ok (.iload_n 1, 1) := by decide +kernel
theorem dX5_stands_74 : decode cX5_stands 74 = .ok (.bipush 43, 2) := by decide +kernel
theorem dX5_stands_76 : decode cX5_stands 76 = .ok (.if_icmp .eq 9, 3) := by decide +kernel
theorem dX5_stands_79 : decode cX5_stands 79 = .ok (.iload_n 1, 1) := by decide +kernel
theorem dX5_stands_80 : decode cX5_stands 80 = .ok (.bipush 45, 2) := by decide +kernel
theorem dX5_stands_82 : decode cX5_stands 82 = .ok (.if_icmp .ne 7, 3) := by decide +kernel
theorem dX5_stands_85 : decode cX5_stands 85 = .ok (.iconst 1, 1) := by decide +kernel
theorem dX5_stands_86 : decode cX5_stands 86 = .ok (.goto 4, 3) := by decide +kernel
theorem dX5_stands_89 : decode cX5_stands 89 = .ok (.iconst 0, 1) := by decide +kernel
theorem dX5_stands_90 : decode cX5_stands 90 = .ok (.iload_n 1, 1) := by decide +kernel
theorem dX5_stands_91 : decode cX5_stands 91 = .ok (.bipush 43, 2) := by decide +kernel
theorem dX5_stands_93 : decode cX5_stands 93 = .ok (.if_icmp .ne 7, 3) := by decide +kernel
theorem dX5_stands_96 : decode cX5_stands 96 = .ok (.iconst 3, 1) := by decide +kernel
theorem dX5_stands_97 : decode cX5_stands 97 = .ok (.goto 4, 3) := by decide +kernel
theorem dX5_stands_100 : decode cX5_stands 100 = .ok (.iconst 5, 1) := by decide +kernel
theorem dX5_stands_101 : decode cX5_stands 101 = .ok (.invokevirtual 126, 3) := by decide +kernel
theorem dX5_stands_104 : decode cX5_stands 104 = .ok (.ireturn, 1) := by decide +kernel
theorem dX5_stands_105 : decode cX5_stands 105 = .ok (.aload_n 0, 1) := by decide +kernel
theorem dX5_stands_106 : decode cX5_stands 106 = .ok (.iload_n 1, 1) := by decide +kernel
theorem dX5_stands_107 : decode cX5_stands 107 = .ok (.bipush 48, 2) := by decide +kernel
theorem dX5_stands_109 : decode cX5_stands 109 = .ok (.bipush 51, 2) := by decide +kernel
theorem dX5_stands_111 : decode cX5_stands 111 = .ok (.invokestatic 51, 3) := by decide +kernel
theorem dX5_stands_114 : decode cX5_stands 114 = .ok (.iconst 4, 1) := by decide +kernel
theorem dX5_stands_115 : decode cX5_stands 115 = .ok (.invokevirtual 126, 3) := by decide +kernel
theorem dX5_stands_118 : decode cX5_stands 118 = .ok (.ireturn, 1) := by decide +kernel
theorem dX5_stands_119 : decode cX5_stands 119 = .ok (.aload_n 0, 1) := by decide +kernel
theorem dX5_stands_120 : decode cX5_stands 120 = .ok (.iload_n 1, 1) := by decide +kernel
theorem dX5_stands_121 : decode cX5_stands 121 = .ok (.bipush 48, 2) := by decide +kernel
theorem dX5_stands_123 : decode cX5_stands 123 = .ok (.bipush 51, 2) := by decide +kernel
theorem dX5_stands_125 : decode cX5_stands 125 = .ok (.invokestatic 51, 3) := by decide +kernel
theorem dX5_stands_128 : decode cX5_stands 128 = .ok (.ifCond .ne 9, 3) := by decide +kernel
theorem dX5_stands_131 : decode cX5_stands 131 = .ok (.iload_n 1, 1) := by decide +kernel
theorem dX5_stands_132 : decode cX5_stands 132 = .ok (.bipush 59, 2) := by decide +kernel
theorem dX5_stands_134 : decode cX5_stands 134 = .ok (.if_icmp .ne 7, 3) := by decide +kernel
theorem dX5_stands_137 : decode cX5_stands 137 = .ok (.iconst 1, 1) := by decide +kernel
theorem dX5_stands_138 : decode cX5_stands 138 = .ok (.goto 4, 3) := by decide +kernel
theorem dX5_stands_141 : decode cX5_stands 141 = .ok (.iconst 0, 1) := by decide +kernel
theorem dX5_stands_142 : decode cX5_stands 142 = .ok (.iload_n 1, 1) := by decide +kernel
theorem dX5_stands_143 : decode cX5_stands 143 = .ok (.bipush 59, 2) := by decide +kernel
theorem dX5_stands_145 : decode cX5_stands 145 = .ok (.if_icmp .ne 7, 3) := by decide +kernel
theorem dX5_stands_148 : decode cX5_stands 148 = .ok (.iconst 0, 1) := by decide +kernel
theorem dX5_stands_149 : decode cX5_stands 149 = .ok (.goto 4, 3) := by decide +kernel
theorem dX5_stands_152 : decode cX5_stands 152 = .ok (.iconst 4, 1) := by decide +kernel
theorem dX5_stands_153 : decode cX5_stands 153 = .ok (.invokevirtual 126, 3) := by decide +kernel
theorem dX5_stands_156 : decode cX5_stands 156 = .ok (.ireturn, 1) := by decide +kernel
theorem dX5_stands_157 : decode cX5_stands 157 = .ok (.aload_n 0, 1) := by decide +kernel
theorem dX5_stands_158 : decode cX5_stands 158 = .ok (.iload_n 1, 1) := by decide +kernel
theorem dX5_stands_159 : decode cX5_stands 159 = .ok (.bipush 49, 2) := by decide +kernel
theorem dX5_stands_161 : decode cX5_stands 161 = .ok (.bipush 56, 2) := by decide +kernel
theorem dX5_stands_163 : decode cX5_stands 163 = .ok (.invokestatic 51, 3) := by decide +kernel
theorem dX5_stands_166 : decode cX5_stands 166 = .ok (.bipush 6, 2) := by decide +kernel
theorem dX5_stands_168 : decode cX5_stands 168 = .ok (.invokevirtual 126, 3) := by decide +kernel
theorem dX5_stands_171 : decode cX5_stands 171 = .ok (.ireturn, 1) := by decide +kernel
theorem dX5_stands_172 : decode cX5_stands 172 = .ok (.aload_n 0, 1) := by decide +kernel
theorem dX5_stands_173 : decode cX5_stands 173 = .ok (.iload_n 1, 1) := by decide +kernel
theorem dX5_stands_174 : decode cX5_stands 174 = .ok (.bipush 59, 2) := by decide +kernel
theorem dX5_stands_176 : decode cX5_stands 176 = .ok (.if_icmp .ne 7, 3) := by decide +kernel
theorem dX5_stands_179 : decode cX5_stands 179 = .ok (.iconst 1, 1) := by decide +kernel
theorem dX5_stands_180 : decode cX5_stands 180 = .ok (.goto 4, 3) := by decide +kernel
theorem dX5_stands_183 : decode cX5_stands 183 = .ok (.iconst 0, 1) := by decide +kernel
theorem dX5_stands_184 : decode cX5_stands 184 = .ok (.iconst 0, 1) := by decide +kernel
theorem dX5_stands_185 : decode cX5_stands 185 = .ok (.invokevirtual 126, 3) := by decide +kernel
theorem dX5_stands_188 : decode cX5_stands 188 = .ok (.ireturn, 1) := by decide +kernel
set_option maxRecDepth 20000 in
theorem ggX5_readBuffer_X5_stands : GoodIn wsX5_readBuffer wsX5_stands := goodIn_r _ [8, 1, 9, 10, 7, 11, 12, 13, 14, 15, 16, 17, 18, 19, 20, 21, 22, 23, 24, 25, 26, 27, 28, 29, 30, 31, 32] (by decide +kernel) (by decide +kernel)
set_option maxRecDepth 20000 in
theorem gX5_readBuffer_X5_stands : GoodIn wsX5_readBuffer (wsV RX5 130 RX5 yX5_stands wsX5_stands) := goodIn_app (goodIn_of _ (by decide +kernel)) ggX5_readBuffer_X5_stands
theorem dX5_readBuffer_0 : decode cX5_readBuffer 0 = .ok (.aload_n 0, 1) := by decide +kernel
theorem dX5_readBuffer_1 : decode cX5_readBuffer 1 = .ok (.iconst 0, 1) := by decide +kernel
theorem dX5_readBuffer_2 : decode cX5_readBuffer 2 = .ok (.putfield 123, 3) := by decide +kernel
theorem dX5_readBuffer_5 : decode cX5_readBuffer 5 = .ok (.iconst 0, 1) := by decide +kernel
theorem dX5_readBuffer_6 : decode cX5_readBuffer 6 = .ok (.istore_n 1, 1) := by decide +kernel
theorem dX5_readBuffer_7 : decode cX5_readBuffer 7 = .ok (.iload_n 1, 1) := by decide +kernel
theorem dX5_readBuffer_8 : decode cX5_readBuffer 8 = .ok (.aload_n 0, 1) := by decide +kernel
theorem dX5_readBuffer_9 : decode cX5_readBuffer 9 = .ok (.getfield 120, 3) := by decide +kernel
theorem dX5_readBuffer_12 : decode cX5_readBuffer 12 = .ok (.if_icmp .ge 24, 3) := by decide +kernel
theorem dX5_readBuffer_15 : decode cX5_readBuffer 15 = .ok (.aload_n 0, 1) := by decide +kernel
theorem dX5_readBuffer_16 : decode cX5_readBuffer 16 = .ok (.aload_n 0, 1) := by decide +kernel
theorem dX5_readBuffer_17 : decode cX5_readBuffer 17 = .ok (.getfield 19, 3) := by decide +kernel
theorem dX5_readBuffer_20 : decode cX5_readBuffer 20 = .ok (.iload_n 1, 1) := by decide +kernel
theorem dX5_readBuffer_21 : decode cX5_readBuffer 21 = .ok (.iaload, 1) := by decide +kernel
theorem dX5_readBuffer_22 : decode cX5_readBuffer 22 = .ok (.invokevirtual 130, 3) := by decide +kernel
theorem dX5_readBuffer_25 : decode cX5_readBuffer 25 = .ok (.ifCond .ne 5, 3) := by decide +kernel
theorem dX5_readBuffer_28 : decode cX5_readBuffer 28 = .ok (.iload_n 1, 1) := by decide +kernel
theorem dX5_readBuffer_29 : decode cX5_readBuffer 29 = .ok (.ireturn, 1) := by decide +kernel
theorem dX5_readBuffer_30 : decode cX5_readBuffer 30 = .ok (.iinc 1 1, 3) := by decide +kernel
theorem dX5_readBuffer_33 : decode cX5_readBuffer 33 = .ok (.goto (-26), 3) := by decide +kernel
theorem dX5_readBuffer_36 : decode cX5_readBuffer 36 = .ok (.aload_n 0, 1) := by decide +kernel
theorem dX5_readBuffer_37 : decode cX5_readBuffer 37 = .ok (.getfield 120, 3) := by decide +kernel
theorem dX5_readBuffer_40 : decode cX5_readBuffer 40 = .ok (.ireturn, 1) := by decide +kernel
set_option maxRecDepth 20000 in
theorem ggX5_firstError_X5_readBuffer : GoodIn wsX5_firstError wsX5_readBuffer := goodIn_r _ [6, 7, 8, 9, 10, 11, 12, 5, 13, 14, 15, 16, 17, 18, 19, 20, 21, 22, 23, 24, 25, 26, 27, 28, 29, 30, 31, 32, 33, 34, 35, 36, 37] (by decide +kernel) (by decide +kernel)
set_option maxRecDepth 20000 in
theorem gX5_firstError_X5_readBuffer : GoodIn wsX5_firstError (wsV RX5 133 RX5 yX5_readBuffer wsX5_readBuffer) := goodIn_app (goodIn_of _ (by decide +kernel)) ggX5_firstError_X5_readBuffer
theorem dX5_firstError_0 : decode cX5_firstError 0 = .ok (.aload_n 0, 1) := by decide +kernel
theorem dX5_firstError_1 : decode cX5_firstError 1 = .ok (.iconst 0, 1) := by decide +kernel
theorem dX5_firstError_2 : decode cX5_firstError 2 = .ok (.putfield 47, 3) := by decide +kernel
theorem dX5_firstError_5 : decode cX5_firstError 5 = .ok (.aload_n 0, 1) := by decide +kernel
theorem dX5_firstError_6 : decode cX5_firstError 6 = .ok (.invokevirtual 133, 3) := by decide +kernel
theorem dX5_firstError_9 : decode cX5_firstError 9 = .ok (.ireturn, 1) := by decide +kernel
set_option maxRecDepth 20000 in
theorem ggX5_isWhole_X5_readBuffer : GoodIn wsX5_isWhole wsX5_readBuffer := goodIn_r _ [7, 2, 1, 8, 9, 10, 11, 6, 12, 13, 14, 15, 16, 17, 18, 19, 20, 21, 22, 23, 24, 25, 26, 27, 28, 29, 30, 31, 32, 33, 34, 35, 36] (by decide +kernel) (by decide +kernel)
set_option maxRecDepth 20000 in
theorem gX5_isWhole_X5_readBuffer : GoodIn wsX5_isWhole (wsV RX5 133 RX5 yX5_readBuffer wsX5_readBuffer) := goodIn_app (goodIn_of _ (by decide +kernel)) ggX5_isWhole_X5_readBuffer
theorem dX5_isWhole_0 : decode cX5_isWhole 0 = .ok (.aload_n 0, 1) := by decide +kernel
theorem dX5_isWhole_1 : decode cX5_isWhole 1 = .ok (.invokevirtual 133, 3) := by decide +kernel
theorem dX5_isWhole_4 : decode cX5_isWhole 4 = .ok (.aload_n 0, 1) := by decide +kernel
theorem dX5_isWhole_5 : decode cX5_isWhole 5 = .ok (.getfield 120, 3) := by decide +kernel
theorem dX5_isWhole_8 : decode cX5_isWhole 8 = .ok (.if_icmp .ne 24, 3) := by decide +kernel
theorem dX5_isWhole_11 : decode cX5_isWhole 11 = .ok (.aload_n 0, 1) := by decide +kernel
theorem dX5_isWhole_12 : decode cX5_isWhole 12 = .ok (.getfield 123, 3) := by decide +kernel
theorem dX5_isWhole_15 : decode cX5_isWhole 15 = .ok (.iconst 4, 1) := by decide +kernel
theorem dX5_isWhole_16 : decode cX5_isWhole 16 = .ok (.if_icmp .eq 12, 3) := by decide +kernel
theorem dX5_isWhole_19 : decode cX5_isWhole 19 = .ok (.aload_n 0, 1) := by decide +kernel
theorem dX5_isWhole_20 : decode cX5_isWhole 20 = .ok (.getfield 123, 3) := by decide +kernel
theorem dX5_isWhole_23 : decode cX5_isWhole 23 = .ok (.bipush 6, 2) := by decide +kernel
theorem dX5_isWhole_25 : decode cX5_isWhole 25 = .ok (.if_icmp .ne 7, 3) := by decide +kernel
theorem dX5_isWhole_28 : decode cX5_isWhole 28 = .ok (.iconst 1, 1) := by decide +kernel
theorem dX5_isWhole_29 : decode cX5_isWhole 29 = .ok (.goto 4, 3) := by decide +kernel
theorem dX5_isWhole_32 : decode cX5_isWhole 32 = .ok (.iconst 0, 1) := by decide +kernel
theorem dX5_isWhole_33 : decode cX5_isWhole 33 = .ok (.ireturn, 1) := by decide +kernel
theorem dX5_endOf_0 : decode cX5_endOf 0 = .ok (.iload_n 1, 1) := by decide +kernel
theorem dX5_endOf_1 : decode cX5_endOf 1 = .ok (.istore_n 2, 1) := by decide +kernel
theorem dX5_endOf_2 : decode cX5_endOf 2 = .ok (.iload_n 2, 1) := by decide +kernel
theorem dX5_endOf_3 : decode cX5_endOf 3 = .ok (.aload_n 0, 1) := by decide +kernel
theorem dX5_endOf_4 : decode cX5_endOf 4 = .ok (.getfield 120, 3) := by decide +kernel
theorem dX5_endOf_7 : decode cX5_endOf 7 = .ok (.if_icmp .ge 20, 3) := by decide +kernel
theorem dX5_endOf_10 : decode cX5_endOf 10 = .ok (.aload_n 0, 1) := by decide +kernel
theorem dX5_endOf_11 : decode cX5_endOf 11 = .ok (.getfield 19, 3) := by decide +kernel
theorem dX5_endOf_14 : decode cX5_endOf 14 = .ok (.iload_n 2, 1) := by decide +kernel
theorem dX5_endOf_15 : decode cX5_endOf 15 = .ok (.iaload, 1) := by decide +kernel
theorem dX5_endOf_16 : decode cX5_endOf 16 = .ok (.bipush 59, 2) := by decide +kernel
theorem dX5_endOf_18 : decode cX5_endOf 18 = .ok (.if_icmp .eq 9, 3) := by decide +kernel
theorem dX5_endOf_21 : decode cX5_endOf 21 = .ok (.iinc 2 1, 3) := by decide +kernel
theorem dX5_endOf_24 : decode cX5_endOf 24 = .ok (.goto (-22), 3) := by decide +kernel
theorem dX5_endOf_27 : decode cX5_endOf 27 = .ok (.iload_n 2, 1) := by decide +kernel
theorem dX5_endOf_28 : decode cX5_endOf 28 = .ok (.ireturn, 1) := by decide +kernel
set_option maxRecDepth 20000 in
theorem ggX5_does_X5_isSquare : GoodIn wsX5_does wsX5_isSquare := goodIn_r _ [6, 7, 8, 9, 5, 10, 23, 24, 25, 26, 27, 28, 29, 30, 31, 32, 33, 34, 35, 36, 37, 38, 39] (by decide +kernel) (by decide +kernel)
set_option maxRecDepth 20000 in
theorem gX5_does_X5_isSquare : GoodIn wsX5_does (wsV RX5 85 RX5 yX5_isSquare wsX5_isSquare) := goodIn_app (goodIn_of _ (by decide +kernel)) ggX5_does_X5_isSquare
set_option maxRecDepth 20000 in
theorem ggX5_does_X5_height : GoodIn wsX5_does wsX5_height := goodIn_r _ [14, 7, 23, 24, 25, 26, 27, 28, 29, 30, 31, 32, 33, 34, 35, 36, 37, 38, 39] (by decide +kernel) (by decide +kernel)
set_option maxRecDepth 20000 in
theorem gX5_does_X5_height : GoodIn wsX5_does (wsV RX5 66 RX5 yX5_height wsX5_height) := goodIn_app (goodIn_of _ (by decide +kernel)) ggX5_does_X5_height
set_option maxRecDepth 20000 in
theorem ggX5_does_X5_putOn : GoodIn wsX5_does wsX5_putOn := goodIn_r _ [18, 7, 11, 12, 13, 5, 14, 23, 24, 25, 26, 27, 28, 29, 30, 31, 32, 33, 34, 35, 36, 37, 38, 39] (by decide +kernel) (by decide +kernel)
set_option maxRecDepth 20000 in
theorem gX5_does_X5_putOn : GoodIn wsX5_does (wsV RX5 101 RX5 yX5_putOn wsX5_putOn) := goodIn_app (goodIn_of _ (by decide +kernel)) ggX5_does_X5_putOn
set_option maxRecDepth 20000 in
theorem ggX5_does_X5_takeFrom : GoodIn wsX5_does wsX5_takeFrom := goodIn_r _ [22, 7, 11, 12, 13, 5, 14, 23, 24, 25, 26, 27, 28, 29, 30, 31, 32, 33, 34, 35, 36, 37, 38, 39] (by decide +kernel) (by decide +kernel)
set_option maxRecDepth 20000 in
theorem gX5_does_X5_takeFrom : GoodIn wsX5_does (wsV RX5 104 RX5 yX5_takeFrom wsX5_takeFrom) := goodIn_app (goodIn_of _ (by decide +kernel)) ggX5_does_X5_takeFrom
theorem dX5_does_0 : decode cX5_does 0 = .ok (.aload_n 0, 1) := by decide +kernel
theorem dX5_does_1 : decode cX5_does 1 = .ok (.getfield 19, 3) := by decide +kernel
theorem dX5_does_4 : decode cX5_does 4 = .ok (.iload_n 1, 1) := by decide +kernel
theorem dX5_does_5 : decode cX5_does 5 = .ok (.iaload, 1) := by decide +kernel
theorem dX5_does_6 : decode cX5_does 6 = .ok (.bipush 48, 2) := by decide +kernel
theorem dX5_does_8 : decode cX5_does 8 = .ok (.isub, 1) := by decide +kernel
theorem dX5_does_9 : decode cX5_does 9 = .ok (.istore_n 3, 1) := by decide +kernel
theorem dX5_does_10 : decode cX5_does 10 = .ok (.aload_n 0, 1) := by decide +kernel
theorem dX5_does_11 : decode cX5_does 11 = .ok (.getfield 19, 3) := by decide +kernel
theorem dX5_does_14 : decode cX5_does 14 = .ok (.iload_n 1, 1) := by decide +kernel
theorem dX5_does_15 : decode cX5_does 15 = .ok (.iconst 1, 1) := by decide +kernel
theorem dX5_does_16 : decode cX5_does 16 = .ok (.iadd, 1) := by decide +kernel
theorem dX5_does_17 : decode cX5_does 17 = .ok (.iaload, 1) := by decide +kernel
theorem dX5_does_18 : decode cX5_does 18 = .ok (.bipush 48, 2) := by decide +kernel
theorem dX5_does_20 : decode cX5_does 20 = .ok (.isub, 1) := by decide +kernel
theorem dX5_does_21 : decode cX5_does 21 = .ok (.istore 4, 2) := by decide +kernel
theorem dX5_does_23 : decode cX5_does 23 = .ok (.aload_n 0, 1) := by decide +kernel
theorem dX5_does_24 : decode cX5_does 24 = .ok (.getfield 19, 3) := by decide +kernel
theorem dX5_does_27 : decode cX5_does 27 = .ok (.iload_n 1, 1) := by decide +kernel
theorem dX5_does_28 : decode cX5_does 28 = .ok (.iconst 2, 1) := by decide +kernel
theorem dX5_does_29 : decode cX5_does 29 = .ok (.iadd, 1) := by decide +kernel
theorem dX5_does_30 : decode cX5_does 30 = .ok (.iaload, 1) := by decide +kernel
theorem dX5_does_31 : decode cX5_does 31 = .ok (.bipush 43, 2) := by decide +kernel
theorem dX5_does_33 : decode cX5_does 33 = .ok (.if_icmp .ne 7, 3) := by decide +kernel
theorem dX5_does_36 : decode cX5_does 36 = .ok (.iconst 1, 1) := by decide +kernel
theorem dX5_does_37 : decode cX5_does 37 = .ok (.goto 4, 3) := by decide +kernel
theorem dX5_does_40 : decode cX5_does 40 = .ok (.iconst 0, 1) := by decide +kernel
theorem dX5_does_41 : decode cX5_does 41 = .ok (.istore 5, 2) := by decide +kernel
theorem dX5_does_43 : decode cX5_does 43 = .ok (.iload 5, 2) := by decide +kernel
theorem dX5_does_45 : decode cX5_does 45 = .ok (.ifCond .eq 11, 3) := by decide +kernel
theorem dX5_does_48 : decode cX5_does 48 = .ok (.iload_n 2, 1) := by decide +kernel
theorem dX5_does_49 : decode cX5_does 49 = .ok (.iload_n 1, 1) := by decide +kernel
theorem dX5_does_50 : decode cX5_does 50 = .ok (.isub, 1) := by decide +kernel
theorem dX5_does_51 : decode cX5_does 51 = .ok (.iconst 3, 1) := by decide +kernel
theorem dX5_does_52 : decode cX5_does 52 = .ok (.isub, 1) := by decide +kernel
theorem dX5_does_53 : decode cX5_does 53 = .ok (.goto 14, 3) := by decide +kernel
theorem dX5_does_56 : decode cX5_does 56 = .ok (.aload_n 0, 1) := by decide +kernel
theorem dX5_does_57 : decode cX5_does 57 = .ok (.getfield 19, 3) := by decide +kernel
theorem dX5_does_60 : decode cX5_does 60 = .ok (.iload_n 1, 1) := by decide +kernel
theorem dX5_does_61 : decode cX5_does 61 = .ok (.iconst 3, 1) := by decide +kernel
theorem dX5_does_62 : decode cX5_does 62 = .ok (.iadd, 1) := by decide +kernel
theorem dX5_does_63 : decode cX5_does 63 = .ok (.iaload, 1) := by decide +kernel
theorem dX5_does_64 : decode cX5_does 64 = .ok (.bipush 48, 2) := by decide +kernel
theorem dX5_does_66 : decode cX5_does 66 = .ok (.isub, 1) := by decide +kernel
theorem dX5_does_67 : decode cX5_does 67 = .ok (.istore 6, 2) := by decide +kernel
theorem dX5_does_69 : decode cX5_does 69 = .ok (.aload_n 0, 1) := by decide +kernel
theorem dX5_does_70 : decode cX5_does 70 = .ok (.iload_n 3, 1) := by decide +kernel
theorem dX5_does_71 : decode cX5_does 71 = .ok (.iload 4, 2) := by decide +kernel
theorem dX5_does_73 : decode cX5_does 73 = .ok (.invokevirtual 85, 3) := by decide +kernel
theorem dX5_does_76 : decode cX5_does 76 = .ok (.ifCond .eq 42, 3) := by decide +kernel
theorem dX5_does_79 : decode cX5_does 79 = .ok (.iload 5, 2) := by decide +kernel
theorem dX5_does_81 : decode cX5_does 81 = .ok (.ifCond .eq 21, 3) := by decide +kernel
theorem dX5_does_84 : decode cX5_does 84 = .ok (.aload_n 0, 1) := by decide +kernel
theorem dX5_does_85 : decode cX5_does 85 = .ok (.iload_n 3, 1) := by decide +kernel
theorem dX5_does_86 : decode cX5_does 86 = .ok (.iload 4, 2) := by decide +kernel
theorem dX5_does_88 : decode cX5_does 88 = .ok (.invokevirtual 66, 3) := by decide +kernel
theorem dX5_does_91 : decode cX5_does 91 = .ok (.iload 6, 2) := by decide +kernel
theorem dX5_does_93 : decode cX5_does 93 = .ok (.iadd, 1) := by decide +kernel
theorem dX5_does_94 : decode cX5_does 94 = .ok (.bipush 8, 2) := by decide +kernel
theorem dX5_does_96 : decode cX5_does 96 = .ok (.if_icmp .gt 22, 3) := by decide +kernel
theorem dX5_does_99 : decode cX5_does 99 = .ok (.goto 15, 3) := by decide +kernel
theorem dX5_does_102 : decode cX5_does 102 = .ok (.aload_n 0, 1) := by decide +kernel
theorem dX5_does_103 : decode cX5_does 103 = .ok (.iload_n 3, 1) := by decide +kernel
theorem dX5_does_104 : decode cX5_does 104 = .ok (.iload 4, 2) := by decide +kernel
theorem dX5_does_106 : decode cX5_does 106 = .ok (.invokevirtual 66, 3) := by decide +kernel
theorem dX5_does_109 : decode cX5_does 109 = .ok (.iload 6, 2) := by decide +kernel
theorem dX5_does_111 : decode cX5_does 111 = .ok (.if_icmp .lt 7, 3) := by decide +kernel
theorem dX5_does_114 : decode cX5_does 114 = .ok (.iconst 1, 1) := by decide +kernel
theorem dX5_does_115 : decode cX5_does 115 = .ok (.goto 4, 3) := by decide +kernel
theorem dX5_does_118 : decode cX5_does 118 = .ok (.iconst 0, 1) := by decide +kernel
theorem dX5_does_119 : decode cX5_does 119 = .ok (.istore 7, 2) := by decide +kernel
theorem dX5_does_121 : decode cX5_does 121 = .ok (.iconst 0, 1) := by decide +kernel
theorem dX5_does_122 : decode cX5_does 122 = .ok (.istore 8, 2) := by decide +kernel
theorem dX5_does_124 : decode cX5_does 124 = .ok (.iload 8, 2) := by decide +kernel
theorem dX5_does_126 : decode cX5_does 126 = .ok (.iload 6, 2) := by decide +kernel
theorem dX5_does_128 : decode cX5_does 128 = .ok (.if_icmp .ge 51, 3) := by decide +kernel
theorem dX5_does_131 : decode cX5_does 131 = .ok (.iload 7, 2) := by decide +kernel
theorem dX5_does_133 : decode cX5_does 133 = .ok (.ifCond .eq 46, 3) := by decide +kernel
theorem dX5_does_136 : decode cX5_does 136 = .ok (.iload 5, 2) := by decide +kernel
theorem dX5_does_138 : decode cX5_does 138 = .ok (.ifCond .eq 27, 3) := by decide +kernel
theorem dX5_does_141 : decode cX5_does 141 = .ok (.aload_n 0, 1) := by decide +kernel
theorem dX5_does_142 : decode cX5_does 142 = .ok (.iload_n 3, 1) := by decide +kernel
theorem dX5_does_143 : decode cX5_does 143 = .ok (.iload 4, 2) := by decide +kernel
theorem dX5_does_145 : decode cX5_does 145 = .ok (.aload_n 0, 1) := by decide +kernel
theorem dX5_does_146 : decode cX5_does 146 = .ok (.getfield 19, 3) := by decide +kernel
theorem dX5_does_149 : decode cX5_does 149 = .ok (.iload_n 1, 1) := by decide +kernel
theorem dX5_does_150 : decode cX5_does 150 = .ok (.iconst 3, 1) := by decide +kernel
theorem dX5_does_151 : decode cX5_does 151 = .ok (.iadd, 1) := by decide +kernel
theorem dX5_does_152 : decode cX5_does 152 = .ok (.iload 8, 2) := by decide +kernel
theorem dX5_does_154 : decode cX5_does 154 = .ok (.iadd, 1) := by decide +kernel
theorem dX5_does_155 : decode cX5_does 155 = .ok (.iaload, 1) := by decide +kernel
theorem dX5_does_156 : decode cX5_does 156 = .ok (.bipush 48, 2) := by decide +kernel
theorem dX5_does_158 : decode cX5_does 158 = .ok (.isub, 1) := by decide +kernel
theorem dX5_does_159 : decode cX5_does 159 = .ok (.invokevirtual 101, 3) := by decide +kernel
theorem dX5_does_162 : decode cX5_does 162 = .ok (.goto 11, 3) := by decide +kernel
theorem dX5_does_165 : decode cX5_does 165 = .ok (.aload_n 0, 1) := by decide +kernel
theorem dX5_does_166 : decode cX5_does 166 = .ok (.iload_n 3, 1) := by decide +kernel
theorem dX5_does_167 : decode cX5_does 167 = .ok (.iload 4, 2) := by decide +kernel
theorem dX5_does_169 : decode cX5_does 169 = .ok (.invokevirtual 104, 3) := by decide +kernel
theorem dX5_does_172 : decode cX5_does 172 = .ok (.pop, 1) := by decide +kernel
theorem dX5_does_173 : decode cX5_does 173 = .ok (.iinc 8 1, 3) := by decide +kernel
theorem dX5_does_176 : decode cX5_does 176 = .ok (.goto (-52), 3) := by decide +kernel
theorem dX5_does_179 : decode cX5_does 179 = .ok (.iload 7, 2) := by decide +kernel
theorem dX5_does_181 : decode cX5_does 181 = .ok (.ireturn, 1) := by decide +kernel
set_option maxRecDepth 20000 in
theorem ggX5_build_X5_isWhole : GoodIn wsX5_build wsX5_isWhole := goodIn_r _ [7, 2, 8, 9, 10, 11, 6, 12, 13, 14, 15, 16, 17, 18, 19, 20, 21, 22, 23, 24, 56, 57, 58, 59, 60, 61, 62, 63, 64, 65, 66, 67, 68, 69, 70, 71, 72] (by decide +kernel) (by decide +kernel)
set_option maxRecDepth 20000 in
theorem gX5_build_X5_isWhole : GoodIn wsX5_build (wsV RX5 136 RX5 yX5_isWhole wsX5_isWhole) := goodIn_app (goodIn_of _ (by decide +kernel)) ggX5_build_X5_isWhole
set_option maxRecDepth 20000 in
theorem ggX5_build_X5_save : GoodIn wsX5_build wsX5_save := goodIn_r _ [28, 29, 30, 31, 56, 57, 58, 59, 60, 61, 62, 63, 64, 65, 66, 67, 68, 69, 70, 71, 72] (by decide +kernel) (by decide +kernel)
set_option maxRecDepth 20000 in
theorem gX5_build_X5_save : GoodIn wsX5_build (wsV RX5 92 RX5 yX5_save wsX5_save) := goodIn_app (goodIn_of _ (by decide +kernel)) ggX5_build_X5_save
set_option maxRecDepth 20000 in
theorem ggX5_build_X5_endOf : GoodIn wsX5_build wsX5_endOf := goodIn_r _ [35, 2, 13, 56, 57, 58, 59, 60, 61, 62, 63, 64, 65, 66, 67, 68, 69, 70, 71, 72] (by decide +kernel) (by decide +kernel)
set_option maxRecDepth 20000 in
theorem gX5_build_X5_endOf : GoodIn wsX5_build (wsV RX5 140 RX5 yX5_endOf wsX5_endOf) := goodIn_app (goodIn_of _ (by decide +kernel)) ggX5_build_X5_endOf
set_option maxRecDepth 20000 in
theorem ggX5_build_X5_does : GoodIn wsX5_build wsX5_does := goodIn_r _ [39, 13, 40, 41, 42, 6, 43, 31, 18, 19, 20, 44, 45, 46, 47, 48, 49, 50, 51, 52, 53, 54, 55, 56, 57, 58, 59, 60, 61, 62, 63, 64, 65, 66, 67, 68, 69, 70, 71, 72] (by decide +kernel) (by decide +kernel)
set_option maxRecDepth 20000 in
theorem gX5_build_X5_does : GoodIn wsX5_build (wsV RX5 144 RX5 yX5_does wsX5_does) := goodIn_app (goodIn_of _ (by decide +kernel)) ggX5_build_X5_does
theorem dX5_build_0 : decode cX5_build 0 = .ok (.aload_n 0, 1) := by decide +kernel
theorem dX5_build_1 : decode cX5_build 1 = .ok (.aload_n 0, 1) := by decide +kernel
theorem dX5_build_2 : decode cX5_build 2 = .ok (.invokevirtual 136, 3) := by decide +kernel
theorem dX5_build_5 : decode cX5_build 5 = .ok (.ifCond .eq 7, 3) := by decide +kernel
theorem dX5_build_8 : decode cX5_build 8 = .ok (.iconst 0, 1) := by decide +kernel
theorem dX5_build_9 : decode cX5_build 9 = .ok (.goto 4, 3) := by decide +kernel
theorem dX5_build_12 : decode cX5_build 12 = .ok (.iconst 1, 1) := by decide +kernel
theorem dX5_build_13 : decode cX5_build 13 = .ok (.putfield 47, 3) := by decide +kernel
theorem dX5_build_16 : decode cX5_build 16 = .ok (.aload_n 0, 1) := by decide +kernel
theorem dX5_build_17 : decode cX5_build 17 = .ok (.getfield 47, 3) := by decide +kernel
theorem dX5_build_20 : decode cX5_build 20 = .ok (.ifCond .le 5, 3) := by decide +kernel
theorem dX5_build_23 : decode cX5_build 23 = .ok (.iconst 0, 1) := by decide +kernel
theorem dX5_build_24 : decode cX5_build 24 = .ok (.ireturn, 1) := by decide +kernel
theorem dX5_build_25 : decode cX5_build 25 = .ok (.aload_n 0, 1) := by decide +kernel
theorem dX5_build_26 : decode cX5_build 26 = .ok (.invokevirtual 92, 3) := by decide +kernel
theorem dX5_build_29 : decode cX5_build 29 = .ok (.iconst 0, 1) := by decide +kernel
theorem dX5_build_30 : decode cX5_build 30 = .ok (.istore_n 1, 1) := by decide +kernel
theorem dX5_build_31 : decode cX5_build 31 = .ok (.iconst 0, 1) := by decide +kernel
theorem dX5_build_32 : decode cX5_build 32 = .ok (.istore_n 2, 1) := by decide +kernel
theorem dX5_build_33 : decode cX5_build 33 = .ok (.iload_n 2, 1) := by decide +kernel
theorem dX5_build_34 : decode cX5_build 34 = .ok (.aload_n 0, 1) := by decide +kernel
theorem dX5_build_35 : decode cX5_build 35 = .ok (.getfield 120, 3) := by decide +kernel
theorem dX5_build_38 : decode cX5_build 38 = .ok (.if_icmp .ge 30, 3) := by decide +kernel
theorem dX5_build_41 : decode cX5_build 41 = .ok (.aload_n 0, 1) := by decide +kernel
theorem dX5_build_42 : decode cX5_build 42 = .ok (.iload_n 2, 1) := by decide +kernel
theorem dX5_build_43 : decode cX5_build 43 = .ok (.aload_n 0, 1) := by decide +kernel
theorem dX5_build_44 : decode cX5_build 44 = .ok (.iload_n 2, 1) := by decide +kernel
theorem dX5_build_45 : decode cX5_build 45 = .ok (.invokevirtual 140, 3) := by decide +kernel
theorem dX5_build_48 : decode cX5_build 48 = .ok (.invokevirtual 144, 3) := by decide +kernel
theorem dX5_build_51 : decode cX5_build 51 = .ok (.ifCond .eq 17, 3) := by decide +kernel
theorem dX5_build_54 : decode cX5_build 54 = .ok (.aload_n 0, 1) := by decide +kernel
theorem dX5_build_55 : decode cX5_build 55 = .ok (.iload_n 2, 1) := by decide +kernel
theorem dX5_build_56 : decode cX5_build 56 = .ok (.invokevirtual 140, 3) := by decide +kernel
theorem dX5_build_59 : decode cX5_build 59 = .ok (.iconst 1, 1) := by decide +kernel
theorem dX5_build_60 : decode cX5_build 60 = .ok (.iadd, 1) := by decide +kernel
theorem dX5_build_61 : decode cX5_build 61 = .ok (.istore_n 2, 1) := by decide +kernel
theorem dX5_build_62 : decode cX5_build 62 = .ok (.iinc 1 1, 3) := by decide +kernel
theorem dX5_build_65 : decode cX5_build 65 = .ok (.goto (-32), 3) := by decide +kernel
theorem dX5_build_68 : decode cX5_build 68 = .ok (.aload_n 0, 1) := by decide +kernel
theorem dX5_build_69 : decode cX5_build 69 = .ok (.iconst 0, 1) := by decide +kernel
theorem dX5_build_70 : decode cX5_build 70 = .ok (.putfield 120, 3) := by decide +kernel
theorem dX5_build_73 : decode cX5_build 73 = .ok (.iload_n 1, 1) := by decide +kernel
theorem dX5_build_74 : decode cX5_build 74 = .ok (.ireturn, 1) := by decide +kernel
set_option maxRecDepth 20000 in
theorem ggX5_toldStack_X5_height : GoodIn wsX5_toldStack wsX5_height := goodIn_r _ [6, 1, 34, 35, 36, 37, 38, 39, 40, 41, 42, 43, 44, 45, 46, 47, 48, 49, 50] (by decide +kernel) (by decide +kernel)
set_option maxRecDepth 20000 in
theorem gX5_toldStack_X5_height : GoodIn wsX5_toldStack (wsV RX5 66 RX5 yX5_height wsX5_height) := goodIn_app (goodIn_of _ (by decide +kernel)) ggX5_toldStack_X5_height
set_option maxRecDepth 20000 in
theorem ggX5_toldStack_X5_colour : GoodIn wsX5_toldStack wsX5_colour := goodIn_r _ [10, 1, 34, 35, 36, 37, 38, 39, 40, 41, 42, 43, 44, 45, 46, 47, 48, 49, 50] (by decide +kernel) (by decide +kernel)
set_option maxRecDepth 20000 in
theorem gX5_toldStack_X5_colour : GoodIn wsX5_toldStack (wsV RX5 111 RX5 yX5_colour wsX5_colour) := goodIn_app (goodIn_of _ (by decide +kernel)) ggX5_toldStack_X5_colour
set_option maxRecDepth 20000 in
theorem ggX5_toldStack_X5_isShaded : GoodIn wsX5_toldStack wsX5_isShaded := goodIn_r _ [14, 1, 15, 16, 17, 18, 19, 20, 5, 21, 22, 23, 24, 2, 3, 4, 6, 34, 35, 36, 37, 38, 39, 40, 41, 42, 43, 44, 45, 46, 47, 48, 49, 50] (by decide +kernel) (by decide +kernel)
set_option maxRecDepth 20000 in
theorem gX5_toldStack_X5_isShaded : GoodIn wsX5_toldStack (wsV RX5 89 RX5 yX5_isShaded wsX5_isShaded) := goodIn_app (goodIn_of _ (by decide +kernel)) ggX5_toldStack_X5_isShaded
set_option maxRecDepth 20000 in
theorem ggX5_toldStack_X5_seenOf : GoodIn wsX5_toldStack wsX5_seenOf := goodIn_r _ [28, 2, 3, 4, 5, 6, 1, 29, 30, 31, 32, 33, 34, 35, 36, 37, 38, 39, 40, 41, 42, 43, 44, 45, 46, 47, 48, 49, 50] (by decide +kernel) (by decide +kernel)
set_option maxRecDepth 20000 in
theorem gX5_toldStack_X5_seenOf : GoodIn wsX5_toldStack (wsV RX5 147 RX5 yX5_seenOf wsX5_seenOf) := goodIn_app (goodIn_of _ (by decide +kernel)) ggX5_toldStack_X5_seenOf
theorem dX5_toldStack_0 : decode cX5_toldStack 0 = .ok (.aload_n 0, 1) := by decide +kernel
theorem dX5_toldStack_1 : decode cX5_toldStack 1 = .ok (.iload_n 1, 1) := by decide +kernel
theorem dX5_toldStack_2 : decode cX5_toldStack 2 = .ok (.iload_n 2, 1) := by decide +kernel
theorem dX5_toldStack_3 : decode cX5_toldStack 3 = .ok (.invokevirtual 66, 3) := by decide +kernel
theorem dX5_toldStack_6 : decode cX5_toldStack 6 = .ok (.istore 4, 2) := by decide +kernel
theorem dX5_toldStack_8 : decode cX5_toldStack 8 = .ok (.iload_n 3, 1) := by decide +kernel
theorem dX5_toldStack_9 : decode cX5_toldStack 9 = .ok (.tableswitch 71 0 2 #[27, 30, 50], 27) := by decide +kernel
theorem dX5_toldStack_36 : decode cX5_toldStack 36 = .ok (.iload 4, 2) := by decide +kernel
theorem dX5_toldStack_38 : decode cX5_toldStack 38 = .ok (.ireturn, 1) := by decide +kernel
theorem dX5_toldStack_39 : decode cX5_toldStack 39 = .ok (.iload 4, 2) := by decide +kernel
theorem dX5_toldStack_41 : decode cX5_toldStack 41 = .ok (.ifCond .ne 7, 3) := by decide +kernel
theorem dX5_toldStack_44 : decode cX5_toldStack 44 = .ok (.iconst (-1), 1) := by decide +kernel
theorem dX5_toldStack_45 : decode cX5_toldStack 45 = .ok (.goto 13, 3) := by decide +kernel
theorem dX5_toldStack_48 : decode cX5_toldStack 48 = .ok (.aload_n 0, 1) := by decide +kernel
theorem dX5_toldStack_49 : decode cX5_toldStack 49 = .ok (.iload_n 1, 1) := by decide +kernel
theorem dX5_toldStack_50 : decode cX5_toldStack 50 = .ok (.iload_n 2, 1) := by decide +kernel
theorem dX5_toldStack_51 : decode cX5_toldStack 51 = .ok (.iload 4, 2) := by decide +kernel
theorem dX5_toldStack_53 : decode cX5_toldStack 53 = .ok (.iconst 1, 1) := by decide +kernel
theorem dX5_toldStack_54 : decode cX5_toldStack 54 = .ok (.isub, 1) := by decide +kernel
theorem dX5_toldStack_55 : decode cX5_toldStack 55 = .ok (.invokevirtual 111, 3) := by decide +kernel
theorem dX5_toldStack_58 : decode cX5_toldStack 58 = .ok (.ireturn, 1) := by decide +kernel
theorem dX5_toldStack_59 : decode cX5_toldStack 59 = .ok (.aload_n 0, 1) := by decide +kernel
theorem dX5_toldStack_60 : decode cX5_toldStack 60 = .ok (.iload_n 1, 1) := by decide +kernel
theorem dX5_toldStack_61 : decode cX5_toldStack 61 = .ok (.iload_n 2, 1) := by decide +kernel
theorem dX5_toldStack_62 : decode cX5_toldStack 62 = .ok (.aload_n 0, 1) := by decide +kernel
theorem dX5_toldStack_63 : decode cX5_toldStack 63 = .ok (.getfield 7, 3) := by decide +kernel
theorem dX5_toldStack_66 : decode cX5_toldStack 66 = .ok (.iconst 1, 1) := by decide +kernel
theorem dX5_toldStack_67 : decode cX5_toldStack 67 = .ok (.iaload, 1) := by decide +kernel
theorem dX5_toldStack_68 : decode cX5_toldStack 68 = .ok (.invokevirtual 89, 3) := by decide +kernel
theorem dX5_toldStack_71 : decode cX5_toldStack 71 = .ok (.ifCond .eq 7, 3) := by decide +kernel
theorem dX5_toldStack_74 : decode cX5_toldStack 74 = .ok (.iconst 1, 1) := by decide +kernel
theorem dX5_toldStack_75 : decode cX5_toldStack 75 = .ok (.goto 4, 3) := by decide +kernel
theorem dX5_toldStack_78 : decode cX5_toldStack 78 = .ok (.iconst 0, 1) := by decide +kernel
theorem dX5_toldStack_79 : decode cX5_toldStack 79 = .ok (.ireturn, 1) := by decide +kernel
theorem dX5_toldStack_80 : decode cX5_toldStack 80 = .ok (.aload_n 0, 1) := by decide +kernel
theorem dX5_toldStack_81 : decode cX5_toldStack 81 = .ok (.iload_n 1, 1) := by decide +kernel
theorem dX5_toldStack_82 : decode cX5_toldStack 82 = .ok (.iload_n 2, 1) := by decide +kernel
theorem dX5_toldStack_83 : decode cX5_toldStack 83 = .ok (.invokevirtual 147, 3) := by decide +kernel
theorem dX5_toldStack_86 : decode cX5_toldStack 86 = .ok (.ireturn, 1) := by decide +kernel
set_option maxRecDepth 20000 in
theorem ggX5_stackNow_X5_layPicture : GoodIn wsX5_stackNow wsX5_layPicture := goodIn_r _ [5, 6, 7, 8, 9, 10, 11, 12, 4, 13, 14, 15, 16, 17, 18, 19, 20, 21, 22, 23, 24, 25, 56, 57, 58, 59, 60, 61, 62, 63, 64, 65, 66, 67, 68, 69, 70, 71, 72] (by decide +kernel) (by decide +kernel)
set_option maxRecDepth 20000 in
theorem gX5_stackNow_X5_layPicture : GoodIn wsX5_stackNow (wsV RX5 78 RX5 yX5_layPicture wsX5_layPicture) := goodIn_app (goodIn_of _ (by decide +kernel)) ggX5_stackNow_X5_layPicture
set_option maxRecDepth 20000 in
theorem ggX5_stackNow_X5_toldStack : GoodIn wsX5_stackNow wsX5_toldStack := goodIn_r _ [29, 8, 10, 11, 12, 4, 13, 30, 31, 32, 33, 34, 35, 36, 37, 38, 39, 40, 41, 42, 43, 44, 45, 46, 47, 48, 49, 50, 51, 52, 53, 54, 55, 7, 56, 57, 58, 59, 60, 61, 62, 63, 64, 65, 66, 67, 68, 69, 70, 71, 72] (by decide +kernel) (by decide +kernel)
set_option maxRecDepth 20000 in
theorem gX5_stackNow_X5_toldStack : GoodIn wsX5_stackNow (wsV RX5 150 RX5 yX5_toldStack wsX5_toldStack) := goodIn_app (goodIn_of _ (by decide +kernel)) ggX5_stackNow_X5_toldStack
theorem dX5_stackNow_0 : decode cX5_stackNow 0 = .ok (.aload_n 0, 1) := by decide +kernel
theorem dX5_stackNow_1 : decode cX5_stackNow 1 = .ok (.invokevirtual 78, 3) := by decide +kernel
theorem dX5_stackNow_4 : decode cX5_stackNow 4 = .ok (.aload_n 0, 1) := by decide +kernel
theorem dX5_stackNow_5 : decode cX5_stackNow 5 = .ok (.iload_n 1, 1) := by decide +kernel
theorem dX5_stackNow_6 : decode cX5_stackNow 6 = .ok (.iload_n 2, 1) := by decide +kernel
theorem dX5_stackNow_7 : decode cX5_stackNow 7 = .ok (.iload_n 3, 1) := by decide +kernel
theorem dX5_stackNow_8 : decode cX5_stackNow 8 = .ok (.invokevirtual 150, 3) := by decide +kernel
theorem dX5_stackNow_11 : decode cX5_stackNow 11 = .ok (.ireturn, 1) := by decide +kernel
set_option maxRecDepth 20000 in
theorem ggX5_stack_X5_isSquare : GoodIn wsX5_stack wsX5_isSquare := goodIn_r _ [6, 7, 8, 9, 5, 10, 61, 62, 63, 64, 65, 66, 67, 68, 69, 70, 71, 72, 73, 74, 75, 76, 77] (by decide +kernel) (by decide +kernel)
set_option maxRecDepth 20000 in
theorem gX5_stack_X5_isSquare : GoodIn wsX5_stack (wsV RX5 85 RX5 yX5_isSquare wsX5_isSquare) := goodIn_app (goodIn_of _ (by decide +kernel)) ggX5_stack_X5_isSquare
set_option maxRecDepth 20000 in
theorem ggX5_stack_X5_in : GoodIn wsX5_stack wsX5_in := goodIn_r _ [10] (by decide +kernel) (by decide +kernel)
set_option maxRecDepth 20000 in
theorem gX5_stack_X5_in : GoodIn wsX5_stack (va_wsS RX5 51 yX5_in wsX5_in) := goodIn_app (goodIn_of _ (by decide +kernel)) ggX5_stack_X5_in
set_option maxRecDepth 20000 in
theorem ggX5_stack_X5_stackNow : GoodIn wsX5_stack wsX5_stackNow := goodIn_r _ [14, 15, 16, 17, 5, 18, 19, 20, 7, 21, 22, 23, 24, 25, 26, 27, 28, 29, 30, 31, 32, 33, 34, 35, 36, 37, 38, 39, 40, 41, 42, 43, 44, 45, 46, 47, 48, 49, 50, 51, 52, 2, 3, 4, 6, 8, 9, 10, 53, 54, 55, 56, 57, 58, 59, 60, 61, 62, 63, 64, 65, 66, 67, 68, 69, 70, 71, 72, 73, 74, 75, 76, 77] (by decide +kernel) (by decide +kernel)
set_option maxRecDepth 20000 in
theorem gX5_stack_X5_stackNow : GoodIn wsX5_stack (wsV RX5 153 RX5 yX5_stackNow wsX5_stackNow) := goodIn_app (goodIn_of _ (by decide +kernel)) ggX5_stack_X5_stackNow
theorem dX5_stack_0 : decode cX5_stack 0 = .ok (.aload_n 0, 1) := by decide +kernel
theorem dX5_stack_1 : decode cX5_stack 1 = .ok (.aload_n 0, 1) := by decide +kernel
theorem dX5_stack_2 : decode cX5_stack 2 = .ok (.iload_n 1, 1) := by decide +kernel
theorem dX5_stack_3 : decode cX5_stack 3 = .ok (.iload_n 2, 1) := by decide +kernel
theorem dX5_stack_4 : decode cX5_stack 4 = .ok (.invokevirtual 85, 3) := by decide +kernel
theorem dX5_stack_7 : decode cX5_stack 7 = .ok (.ifCond .ne 7, 3) := by decide +kernel
theorem dX5_stack_10 : decode cX5_stack 10 = .ok (.iconst 1, 1) := by decide +kernel
theorem dX5_stack_11 : decode cX5_stack 11 = .ok (.goto 17, 3) := by decide +kernel
theorem dX5_stack_14 : decode cX5_stack 14 = .ok (.iload_n 3, 1) := by decide +kernel
theorem dX5_stack_15 : decode cX5_stack 15 = .ok (.iconst 0, 1) := by decide +kernel
theorem dX5_stack_16 : decode cX5_stack 16 = .ok (.iconst 3, 1) := by decide +kernel
theorem dX5_stack_17 : decode cX5_stack 17 = .ok (.invokestatic 51, 3) := by decide +kernel
theorem dX5_stack_20 : decode cX5_stack 20 = .ok (.ifCond .eq 7, 3) := by decide +kernel
theorem dX5_stack_23 : decode cX5_stack 23 = .ok (.iconst 0, 1) := by decide +kernel
theorem dX5_stack_24 : decode cX5_stack 24 = .ok (.goto 4, 3) := by decide +kernel
theorem dX5_stack_27 : decode cX5_stack 27 = .ok (.iconst 2, 1) := by decide +kernel
theorem dX5_stack_28 : decode cX5_stack 28 = .ok (.putfield 47, 3) := by decide +kernel
theorem dX5_stack_31 : decode cX5_stack 31 = .ok (.aload_n 0, 1) := by decide +kernel
theorem dX5_stack_32 : decode cX5_stack 32 = .ok (.getfield 47, 3) := by decide +kernel
theorem dX5_stack_35 : decode cX5_stack 35 = .ok (.ifCond .le 7, 3) := by decide +kernel
theorem dX5_stack_38 : decode cX5_stack 38 = .ok (.iconst 0, 1) := by decide +kernel
theorem dX5_stack_39 : decode cX5_stack 39 = .ok (.goto 10, 3) := by decide +kernel
theorem dX5_stack_42 : decode cX5_stack 42 = .ok (.aload_n 0, 1) := by decide +kernel
theorem dX5_stack_43 : decode cX5_stack 43 = .ok (.iload_n 1, 1) := by decide +kernel
theorem dX5_stack_44 : decode cX5_stack 44 = .ok (.iload_n 2, 1) := by decide +kernel
theorem dX5_stack_45 : decode cX5_stack 45 = .ok (.iload_n 3, 1) := by decide +kernel
theorem dX5_stack_46 : decode cX5_stack 46 = .ok (.invokevirtual 153, 3) := by decide +kernel
theorem dX5_stack_49 : decode cX5_stack 49 = .ok (.ireturn, 1) := by decide +kernel
set_option maxRecDepth 20000 in
theorem ggX5_toldBlock_X5_colour : GoodIn wsX5_toldBlock wsX5_colour := goodIn_r _ [6, 7, 12, 13, 14, 15, 16, 17, 18, 19, 20, 21, 22, 23, 24, 25, 26, 27, 28] (by decide +kernel) (by decide +kernel)
set_option maxRecDepth 20000 in
theorem gX5_toldBlock_X5_colour : GoodIn wsX5_toldBlock (wsV RX5 111 RX5 yX5_colour wsX5_colour) := goodIn_app (goodIn_of _ (by decide +kernel)) ggX5_toldBlock_X5_colour
set_option maxRecDepth 20000 in
theorem ggX5_toldBlock_X5_isSeen : GoodIn wsX5_toldBlock wsX5_isSeen := goodIn_r _ [11, 1, 12, 13, 14, 15, 16, 17, 18, 19, 20, 21, 22, 23, 24, 25, 26, 27, 28] (by decide +kernel) (by decide +kernel)
set_option maxRecDepth 20000 in
theorem gX5_toldBlock_X5_isSeen : GoodIn wsX5_toldBlock (wsV RX5 74 RX5 yX5_isSeen wsX5_isSeen) := goodIn_app (goodIn_of _ (by decide +kernel)) ggX5_toldBlock_X5_isSeen
theorem dX5_toldBlock_0 : decode cX5_toldBlock 0 = .ok (.bipush 8, 2) := by decide +kernel
theorem dX5_toldBlock_2 : decode cX5_toldBlock 2 = .ok (.bipush 6, 2) := by decide +kernel
theorem dX5_toldBlock_4 : decode cX5_toldBlock 4 = .ok (.iload_n 2, 1) := by decide +kernel
theorem dX5_toldBlock_5 : decode cX5_toldBlock 5 = .ok (.imul, 1) := by decide +kernel
theorem dX5_toldBlock_6 : decode cX5_toldBlock 6 = .ok (.iload_n 1, 1) := by decide +kernel
theorem dX5_toldBlock_7 : decode cX5_toldBlock 7 = .ok (.iadd, 1) := by decide +kernel
theorem dX5_toldBlock_8 : decode cX5_toldBlock 8 = .ok (.imul, 1) := by decide +kernel
theorem dX5_toldBlock_9 : decode cX5_toldBlock 9 = .ok (.iload_n 3, 1) := by decide +kernel
theorem dX5_toldBlock_10 : decode cX5_toldBlock 10 = .ok (.iadd, 1) := by decide +kernel
theorem dX5_toldBlock_11 : decode cX5_toldBlock 11 = .ok (.istore 5, 2) := by decide +kernel
theorem dX5_toldBlock_13 : decode cX5_toldBlock 13 = .ok (.iload 4, 2) := by decide +kernel
theorem dX5_toldBlock_15 : decode cX5_toldBlock 15 = .ok (.ifCond .ne 13, 3) := by decide +kernel
theorem dX5_toldBlock_18 : decode cX5_toldBlock 18 = .ok (.aload_n 0, 1) := by decide +kernel
theorem dX5_toldBlock_19 : decode cX5_toldBlock 19 = .ok (.iload_n 1, 1) := by decide +kernel
theorem dX5_toldBlock_20 : decode cX5_toldBlock 20 = .ok (.iload_n 2, 1) := by decide +kernel
theorem dX5_toldBlock_21 : decode cX5_toldBlock 21 = .ok (.iload_n 3, 1) := by decide +kernel
theorem dX5_toldBlock_22 : decode cX5_toldBlock 22 = .ok (.invokevirtual 111, 3) := by decide +kernel
theorem dX5_toldBlock_25 : decode cX5_toldBlock 25 = .ok (.goto 40, 3) := by decide +kernel
theorem dX5_toldBlock_28 : decode cX5_toldBlock 28 = .ok (.iload 4, 2) := by decide +kernel
theorem dX5_toldBlock_30 : decode cX5_toldBlock 30 = .ok (.iconst 4, 1) := by decide +kernel
theorem dX5_toldBlock_31 : decode cX5_toldBlock 31 = .ok (.if_icmp .ne 20, 3) := by decide +kernel
theorem dX5_toldBlock_34 : decode cX5_toldBlock 34 = .ok (.aload_n 0, 1) := by decide +kernel
theorem dX5_toldBlock_35 : decode cX5_toldBlock 35 = .ok (.iload 5, 2) := by decide +kernel
theorem dX5_toldBlock_37 : decode cX5_toldBlock 37 = .ok (.invokevirtual 74, 3) := by decide +kernel
theorem dX5_toldBlock_40 : decode cX5_toldBlock 40 = .ok (.ifCond .eq 7, 3) := by decide +kernel
theorem dX5_toldBlock_43 : decode cX5_toldBlock 43 = .ok (.iconst 1, 1) := by decide +kernel
theorem dX5_toldBlock_44 : decode cX5_toldBlock 44 = .ok (.goto 21, 3) := by decide +kernel
theorem dX5_toldBlock_47 : decode cX5_toldBlock 47 = .ok (.iconst 0, 1) := by decide +kernel
theorem dX5_toldBlock_48 : decode cX5_toldBlock 48 = .ok (.goto 17, 3) := by decide +kernel
theorem dX5_toldBlock_51 : decode cX5_toldBlock 51 = .ok (.aload_n 0, 1) := by decide +kernel
theorem dX5_toldBlock_52 : decode cX5_toldBlock 52 = .ok (.getfield 40, 3) := by decide +kernel
theorem dX5_toldBlock_55 : decode cX5_toldBlock 55 = .ok (.iconst 3, 1) := by decide +kernel
theorem dX5_toldBlock_56 : decode cX5_toldBlock 56 = .ok (.iload 5, 2) := by decide +kernel
theorem dX5_toldBlock_58 : decode cX5_toldBlock 58 = .ok (.imul, 1) := by decide +kernel
theorem dX5_toldBlock_59 : decode cX5_toldBlock 59 = .ok (.iload 4, 2) := by decide +kernel
theorem dX5_toldBlock_61 : decode cX5_toldBlock 61 = .ok (.iadd, 1) := by decide +kernel
theorem dX5_toldBlock_62 : decode cX5_toldBlock 62 = .ok (.iconst 1, 1) := by decide +kernel
theorem dX5_toldBlock_63 : decode cX5_toldBlock 63 = .ok (.isub, 1) := by decide +kernel
theorem dX5_toldBlock_64 : decode cX5_toldBlock 64 = .ok (.iaload, 1) := by decide +kernel
theorem dX5_toldBlock_65 : decode cX5_toldBlock 65 = .ok (.ireturn, 1) := by decide +kernel
set_option maxRecDepth 20000 in
theorem ggX5_blockNow_X5_height : GoodIn wsX5_blockNow wsX5_height := goodIn_r _ [5, 6, 38, 39, 40, 41, 42, 43, 44, 45, 46, 47, 48, 49, 50, 51, 52, 53, 54] (by decide +kernel) (by decide +kernel)
set_option maxRecDepth 20000 in
theorem gX5_blockNow_X5_height : GoodIn wsX5_blockNow (wsV RX5 66 RX5 yX5_height wsX5_height) := goodIn_app (goodIn_of _ (by decide +kernel)) ggX5_blockNow_X5_height
set_option maxRecDepth 20000 in
theorem ggX5_blockNow_X5_layPicture : GoodIn wsX5_blockNow wsX5_layPicture := goodIn_r _ [10, 11, 12, 6, 13, 1, 2, 3, 4, 5, 14, 15, 16, 17, 18, 19, 20, 21, 22, 23, 24, 25, 38, 39, 40, 41, 42, 43, 44, 45, 46, 47, 48, 49, 50, 51, 52, 53, 54] (by decide +kernel) (by decide +kernel)
set_option maxRecDepth 20000 in
theorem gX5_blockNow_X5_layPicture : GoodIn wsX5_blockNow (wsV RX5 78 RX5 yX5_layPicture wsX5_layPicture) := goodIn_app (goodIn_of _ (by decide +kernel)) ggX5_blockNow_X5_layPicture
set_option maxRecDepth 20000 in
theorem ggX5_blockNow_X5_toldBlock : GoodIn wsX5_blockNow wsX5_toldBlock := goodIn_r _ [29, 12, 30, 31, 32, 4, 33, 6, 34, 35, 36, 37, 38, 39, 40, 41, 42, 43, 44, 45, 46, 47, 48, 49, 50, 51, 52, 53, 54] (by decide +kernel) (by decide +kernel)
set_option maxRecDepth 20000 in
theorem gX5_blockNow_X5_toldBlock : GoodIn wsX5_blockNow (wsV RX5 156 RX5 yX5_toldBlock wsX5_toldBlock) := goodIn_app (goodIn_of _ (by decide +kernel)) ggX5_blockNow_X5_toldBlock
theorem dX5_blockNow_0 : decode cX5_blockNow 0 = .ok (.iload_n 3, 1) := by decide +kernel
theorem dX5_blockNow_1 : decode cX5_blockNow 1 = .ok (.aload_n 0, 1) := by decide +kernel
theorem dX5_blockNow_2 : decode cX5_blockNow 2 = .ok (.iload_n 1, 1) := by decide +kernel
theorem dX5_blockNow_3 : decode cX5_blockNow 3 = .ok (.iload_n 2, 1) := by decide +kernel
theorem dX5_blockNow_4 : decode cX5_blockNow 4 = .ok (.invokevirtual 66, 3) := by decide +kernel
theorem dX5_blockNow_7 : decode cX5_blockNow 7 = .ok (.if_icmp .lt 5, 3) := by decide +kernel
theorem dX5_blockNow_10 : decode cX5_blockNow 10 = .ok (.iconst (-1), 1) := by decide +kernel
theorem dX5_blockNow_11 : decode cX5_blockNow 11 = .ok (.ireturn, 1) := by decide +kernel
theorem dX5_blockNow_12 : decode cX5_blockNow 12 = .ok (.aload_n 0, 1) := by decide +kernel
theorem dX5_blockNow_13 : decode cX5_blockNow 13 = .ok (.invokevirtual 78, 3) := by decide +kernel
theorem dX5_blockNow_16 : decode cX5_blockNow 16 = .ok (.aload_n 0, 1) := by decide +kernel
theorem dX5_blockNow_17 : decode cX5_blockNow 17 = .ok (.iload_n 1, 1) := by decide +kernel
theorem dX5_blockNow_18 : decode cX5_blockNow 18 = .ok (.iload_n 2, 1) := by decide +kernel
theorem dX5_blockNow_19 : decode cX5_blockNow 19 = .ok (.iload_n 3, 1) := by decide +kernel
theorem dX5_blockNow_20 : decode cX5_blockNow 20 = .ok (.iload 4, 2) := by decide +kernel
theorem dX5_blockNow_22 : decode cX5_blockNow 22 = .ok (.invokevirtual 156, 3) := by decide +kernel
theorem dX5_blockNow_25 : decode cX5_blockNow 25 = .ok (.ireturn, 1) := by decide +kernel
set_option maxRecDepth 20000 in
theorem ggX5_block_X5_isSquare : GoodIn wsX5_block wsX5_isSquare := goodIn_r _ [6, 7, 8, 9, 5, 10, 50, 51, 52, 53, 54, 55, 56, 57, 58, 59, 60, 61, 62, 63, 64, 65, 66] (by decide +kernel) (by decide +kernel)
set_option maxRecDepth 20000 in
theorem gX5_block_X5_isSquare : GoodIn wsX5_block (wsV RX5 85 RX5 yX5_isSquare wsX5_isSquare) := goodIn_app (goodIn_of _ (by decide +kernel)) ggX5_block_X5_isSquare
set_option maxRecDepth 20000 in
theorem ggX5_block_X5_in : GoodIn wsX5_block wsX5_in := goodIn_r _ [10] (by decide +kernel) (by decide +kernel)
set_option maxRecDepth 20000 in
theorem gX5_block_X5_in : GoodIn wsX5_block (va_wsS RX5 51 yX5_in wsX5_in) := goodIn_app (goodIn_of _ (by decide +kernel)) ggX5_block_X5_in
set_option maxRecDepth 20000 in
theorem ggX5_block_X5_blockNow : GoodIn wsX5_block wsX5_blockNow := goodIn_r _ [14, 15, 16, 17, 5, 18, 7, 19, 20, 21, 22, 23, 24, 25, 26, 27, 28, 29, 30, 31, 32, 33, 34, 35, 36, 37, 38, 39, 40, 41, 42, 43, 44, 45, 46, 47, 48, 49, 50, 51, 52, 53, 54, 55, 56, 57, 58, 59, 60, 61, 62, 63, 64, 65, 66] (by decide +kernel) (by decide +kernel)
set_option maxRecDepth 20000 in
theorem gX5_block_X5_blockNow : GoodIn wsX5_block (wsV RX5 160 RX5 yX5_blockNow wsX5_blockNow) := goodIn_app (goodIn_of _ (by decide +kernel)) ggX5_block_X5_blockNow
theorem dX5_block_0 : decode cX5_block 0 = .ok (.aload_n 0, 1) := by decide +kernel
theorem dX5_block_1 : decode cX5_block 1 = .ok (.aload_n 0, 1) := by decide +kernel
theorem dX5_block_2 : decode cX5_block 2 = .ok (.iload_n 1, 1) := by decide +kernel
theorem dX5_block_3 : decode cX5_block 3 = .ok (.iload_n 2, 1) := by decide +kernel
theorem dX5_block_4 : decode cX5_block 4 = .ok (.invokevirtual 85, 3) := by decide +kernel
theorem dX5_block_7 : decode cX5_block 7 = .ok (.ifCond .ne 7, 3) := by decide +kernel
theorem dX5_block_10 : decode cX5_block 10 = .ok (.iconst 1, 1) := by decide +kernel
theorem dX5_block_11 : decode cX5_block 11 = .ok (.goto 28, 3) := by decide +kernel
theorem dX5_block_14 : decode cX5_block 14 = .ok (.iload_n 3, 1) := by decide +kernel
theorem dX5_block_15 : decode cX5_block 15 = .ok (.iconst 0, 1) := by decide +kernel
theorem dX5_block_16 : decode cX5_block 16 = .ok (.bipush 7, 2) := by decide +kernel
theorem dX5_block_18 : decode cX5_block 18 = .ok (.invokestatic 51, 3) := by decide +kernel
theorem dX5_block_21 : decode cX5_block 21 = .ok (.ifCond .eq 17, 3) := by decide +kernel
theorem dX5_block_24 : decode cX5_block 24 = .ok (.iload 4, 2) := by decide +kernel
theorem dX5_block_26 : decode cX5_block 26 = .ok (.iconst 0, 1) := by decide +kernel
theorem dX5_block_27 : decode cX5_block 27 = .ok (.iconst 4, 1) := by decide +kernel
theorem dX5_block_28 : decode cX5_block 28 = .ok (.invokestatic 51, 3) := by decide +kernel
theorem dX5_block_31 : decode cX5_block 31 = .ok (.ifCond .eq 7, 3) := by decide +kernel
theorem dX5_block_34 : decode cX5_block 34 = .ok (.iconst 0, 1) := by decide +kernel
theorem dX5_block_35 : decode cX5_block 35 = .ok (.goto 4, 3) := by decide +kernel
theorem dX5_block_38 : decode cX5_block 38 = .ok (.iconst 2, 1) := by decide +kernel
theorem dX5_block_39 : decode cX5_block 39 = .ok (.putfield 47, 3) := by decide +kernel
theorem dX5_block_42 : decode cX5_block 42 = .ok (.aload_n 0, 1) := by decide +kernel
theorem dX5_block_43 : decode cX5_block 43 = .ok (.getfield 47, 3) := by decide +kernel
theorem dX5_block_46 : decode cX5_block 46 = .ok (.ifCond .le 7, 3) := by decide +kernel
theorem dX5_block_49 : decode cX5_block 49 = .ok (.iconst 0, 1) := by decide +kernel
theorem dX5_block_50 : decode cX5_block 50 = .ok (.goto 12, 3) := by decide +kernel
theorem dX5_block_53 : decode cX5_block 53 = .ok (.aload_n 0, 1) := by decide +kernel
theorem dX5_block_54 : decode cX5_block 54 = .ok (.iload_n 1, 1) := by decide +kernel
theorem dX5_block_55 : decode cX5_block 55 = .ok (.iload_n 2, 1) := by decide +kernel
theorem dX5_block_56 : decode cX5_block 56 = .ok (.iload_n 3, 1) := by decide +kernel
theorem dX5_block_57 : decode cX5_block 57 = .ok (.iload 4, 2) := by decide +kernel
theorem dX5_block_59 : decode cX5_block 59 = .ok (.invokevirtual 160, 3) := by decide +kernel
theorem dX5_block_62 : decode cX5_block 62 = .ok (.ireturn, 1) := by decide +kernel
set_option maxRecDepth 20000 in
theorem ggX5_toldTriangle_X5_colour : GoodIn wsX5_toldTriangle wsX5_colour := goodIn_r _ [7, 8, 9, 10, 11, 12, 13, 14, 15, 16, 17, 18, 19, 20, 21, 22, 23, 24, 25] (by decide +kernel) (by decide +kernel)
set_option maxRecDepth 20000 in
theorem gX5_toldTriangle_X5_colour : GoodIn wsX5_toldTriangle (wsV RX5 111 RX5 yX5_colour wsX5_colour) := goodIn_app (goodIn_of _ (by decide +kernel)) ggX5_toldTriangle_X5_colour
theorem dX5_toldTriangle_0 : decode cX5_toldTriangle 0 = .ok (.aload_n 0, 1) := by decide +kernel
theorem dX5_toldTriangle_1 : decode cX5_toldTriangle 1 = .ok (.getfield 31, 3) := by decide +kernel
theorem dX5_toldTriangle_4 : decode cX5_toldTriangle 4 = .ok (.iload_n 1, 1) := by decide +kernel
theorem dX5_toldTriangle_5 : decode cX5_toldTriangle 5 = .ok (.iaload, 1) := by decide +kernel
theorem dX5_toldTriangle_6 : decode cX5_toldTriangle 6 = .ok (.istore_n 3, 1) := by decide +kernel
theorem dX5_toldTriangle_7 : decode cX5_toldTriangle 7 = .ok (.iload_n 3, 1) := by decide +kernel
theorem dX5_toldTriangle_8 : decode cX5_toldTriangle 8 = .ok (.iconst (-1), 1) := by decide +kernel
theorem dX5_toldTriangle_9 : decode cX5_toldTriangle 9 = .ok (.if_icmp .ne 5, 3) := by decide +kernel
theorem dX5_toldTriangle_12 : decode cX5_toldTriangle 12 = .ok (.iconst (-1), 1) := by decide +kernel
theorem dX5_toldTriangle_13 : decode cX5_toldTriangle 13 = .ok (.ireturn, 1) := by decide +kernel
theorem dX5_toldTriangle_14 : decode cX5_toldTriangle 14 = .ok (.iload_n 3, 1) := by decide +kernel
theorem dX5_toldTriangle_15 : decode cX5_toldTriangle 15 = .ok (.bipush 8, 2) := by decide +kernel
theorem dX5_toldTriangle_17 : decode cX5_toldTriangle 17 = .ok (.idiv, 1) := by decide +kernel
theorem dX5_toldTriangle_18 : decode cX5_toldTriangle 18 = .ok (.bipush 6, 2) := by decide +kernel
theorem dX5_toldTriangle_20 : decode cX5_toldTriangle 20 = .ok (.irem, 1) := by decide +kernel
theorem dX5_toldTriangle_21 : decode cX5_toldTriangle 21 = .ok (.istore 4, 2) := by decide +kernel
theorem dX5_toldTriangle_23 : decode cX5_toldTriangle 23 = .ok (.iload_n 3, 1) := by decide +kernel
theorem dX5_toldTriangle_24 : decode cX5_toldTriangle 24 = .ok (.bipush 8, 2) := by decide +kernel
theorem dX5_toldTriangle_26 : decode cX5_toldTriangle 26 = .ok (.idiv, 1) := by decide +kernel
theorem dX5_toldTriangle_27 : decode cX5_toldTriangle 27 = .ok (.bipush 6, 2) := by decide +kernel
theorem dX5_toldTriangle_29 : decode cX5_toldTriangle 29 = .ok (.idiv, 1) := by decide +kernel
theorem dX5_toldTriangle_30 : decode cX5_toldTriangle 30 = .ok (.istore 5, 2) := by decide +kernel
theorem dX5_toldTriangle_32 : decode cX5_toldTriangle 32 = .ok (.iload_n 3, 1) := by decide +kernel
theorem dX5_toldTriangle_33 : decode cX5_toldTriangle 33 = .ok (.bipush 8, 2) := by decide +kernel
theorem dX5_toldTriangle_35 : decode cX5_toldTriangle 35 = .ok (.irem, 1) := by decide +kernel
theorem dX5_toldTriangle_36 : decode cX5_toldTriangle 36 = .ok (.istore 6, 2) := by decide +kernel
theorem dX5_toldTriangle_38 : decode cX5_toldTriangle 38 = .ok (.iload_n 2, 1) := by decide +kernel
theorem dX5_toldTriangle_39 : decode cX5_toldTriangle 39 = .ok (.tableswitch 45 0 3 #[29, 32, 35, 38], 29) := by decide +kernel
theorem dX5_toldTriangle_68 : decode cX5_toldTriangle 68 = .ok (.iload 4, 2) := by decide +kernel
theorem dX5_toldTriangle_70 : decode cX5_toldTriangle 70 = .ok (.ireturn, 1) := by decide +kernel
theorem dX5_toldTriangle_71 : decode cX5_toldTriangle 71 = .ok (.iload 5, 2) := by decide +kernel
theorem dX5_toldTriangle_73 : decode cX5_toldTriangle 73 = .ok (.ireturn, 1) := by decide +kernel
theorem dX5_toldTriangle_74 : decode cX5_toldTriangle 74 = .ok (.iload 6, 2) := by decide +kernel
theorem dX5_toldTriangle_76 : decode cX5_toldTriangle 76 = .ok (.ireturn, 1) := by decide +kernel
theorem dX5_toldTriangle_77 : decode cX5_toldTriangle 77 = .ok (.aload_n 0, 1) := by decide +kernel
theorem dX5_toldTriangle_78 : decode cX5_toldTriangle 78 = .ok (.getfield 34, 3) := by decide +kernel
theorem dX5_toldTriangle_81 : decode cX5_toldTriangle 81 = .ok (.iload_n 1, 1) := by decide +kernel
theorem dX5_toldTriangle_82 : decode cX5_toldTriangle 82 = .ok (.iaload, 1) := by decide +kernel
theorem dX5_toldTriangle_83 : decode cX5_toldTriangle 83 = .ok (.ireturn, 1) := by decide +kernel
theorem dX5_toldTriangle_84 : decode cX5_toldTriangle 84 = .ok (.aload_n 0, 1) := by decide +kernel
theorem dX5_toldTriangle_85 : decode cX5_toldTriangle 85 = .ok (.iload 4, 2) := by decide +kernel
theorem dX5_toldTriangle_87 : decode cX5_toldTriangle 87 = .ok (.iload 5, 2) := by decide +kernel
theorem dX5_toldTriangle_89 : decode cX5_toldTriangle 89 = .ok (.iload 6, 2) := by decide +kernel
theorem dX5_toldTriangle_91 : decode cX5_toldTriangle 91 = .ok (.invokevirtual 111, 3) := by decide +kernel
theorem dX5_toldTriangle_94 : decode cX5_toldTriangle 94 = .ok (.ireturn, 1) := by decide +kernel
set_option maxRecDepth 20000 in
theorem ggX5_triangleNow_X5_layPicture : GoodIn wsX5_triangleNow wsX5_layPicture := goodIn_r _ [5, 6, 7, 8, 9, 10, 11, 12, 4, 13, 14, 15, 16, 17, 18, 19, 20, 21, 22, 23, 24, 25, 34, 35, 36, 37, 38, 39, 40, 41, 42, 43, 44, 45, 46, 47, 48, 49, 50] (by decide +kernel) (by decide +kernel)
set_option maxRecDepth 20000 in
theorem gX5_triangleNow_X5_layPicture : GoodIn wsX5_triangleNow (wsV RX5 78 RX5 yX5_layPicture wsX5_layPicture) := goodIn_app (goodIn_of _ (by decide +kernel)) ggX5_triangleNow_X5_layPicture
set_option maxRecDepth 20000 in
theorem ggX5_triangleNow_X5_toldTriangle : GoodIn wsX5_triangleNow wsX5_toldTriangle := goodIn_r _ [29, 6, 9, 30, 31, 32, 4, 33, 8, 34, 35, 36, 37, 38, 39, 40, 41, 42, 43, 44, 45, 46, 47, 48, 49, 50] (by decide +kernel) (by decide +kernel)
set_option maxRecDepth 20000 in
theorem gX5_triangleNow_X5_toldTriangle : GoodIn wsX5_triangleNow (wsV RX5 163 RX5 yX5_toldTriangle wsX5_toldTriangle) := goodIn_app (goodIn_of _ (by decide +kernel)) ggX5_triangleNow_X5_toldTriangle
theorem dX5_triangleNow_0 : decode cX5_triangleNow 0 = .ok (.aload_n 0, 1) := by decide +kernel
theorem dX5_triangleNow_1 : decode cX5_triangleNow 1 = .ok (.invokevirtual 78, 3) := by decide +kernel
theorem dX5_triangleNow_4 : decode cX5_triangleNow 4 = .ok (.aload_n 0, 1) := by decide +kernel
theorem dX5_triangleNow_5 : decode cX5_triangleNow 5 = .ok (.iload_n 1, 1) := by decide +kernel
theorem dX5_triangleNow_6 : decode cX5_triangleNow 6 = .ok (.iload_n 2, 1) := by decide +kernel
theorem dX5_triangleNow_7 : decode cX5_triangleNow 7 = .ok (.invokevirtual 163, 3) := by decide +kernel
theorem dX5_triangleNow_10 : decode cX5_triangleNow 10 = .ok (.ireturn, 1) := by decide +kernel
set_option maxRecDepth 20000 in
theorem ggX5_picture_X5_in : GoodIn wsX5_picture wsX5_in := goodIn_r _ [5] (by decide +kernel) (by decide +kernel)
set_option maxRecDepth 20000 in
theorem gX5_picture_X5_in : GoodIn wsX5_picture (va_wsS RX5 51 yX5_in wsX5_in) := goodIn_app (goodIn_of _ (by decide +kernel)) ggX5_picture_X5_in
set_option maxRecDepth 20000 in
theorem ggX5_picture_X5_triangleAt : GoodIn wsX5_picture wsX5_triangleAt := goodIn_r _ [8] (by decide +kernel) (by decide +kernel)
set_option maxRecDepth 20000 in
theorem gX5_picture_X5_triangleAt : GoodIn wsX5_picture (va_wsS RX5 58 yX5_triangleAt wsX5_triangleAt) := goodIn_app (goodIn_of _ (by decide +kernel)) ggX5_picture_X5_triangleAt
set_option maxRecDepth 20000 in
theorem ggX5_picture_X5_triangleNow : GoodIn wsX5_picture wsX5_triangleNow := goodIn_r _ [12, 13, 14, 15, 4, 16, 17, 18, 19, 20, 21, 22, 23, 24, 25, 26, 27, 28, 29, 30, 31, 32, 33, 6, 7, 8, 34, 35, 36, 37, 38, 39, 40, 41, 42, 43, 44, 45, 46, 47, 48, 49, 50, 51, 52, 53, 54, 55, 56, 57, 58] (by decide +kernel) (by decide +kernel)
set_option maxRecDepth 20000 in
theorem gX5_picture_X5_triangleNow : GoodIn wsX5_picture (wsV RX5 166 RX5 yX5_triangleNow wsX5_triangleNow) := goodIn_app (goodIn_of _ (by decide +kernel)) ggX5_picture_X5_triangleNow
theorem dX5_picture_0 : decode cX5_picture 0 = .ok (.iload_n 1, 1) := by decide +kernel
theorem dX5_picture_1 : decode cX5_picture 1 = .ok (.bipush (-9), 2) := by decide +kernel
theorem dX5_picture_3 : decode cX5_picture 3 = .ok (.bipush 6, 2) := by decide +kernel
theorem dX5_picture_5 : decode cX5_picture 5 = .ok (.invokestatic 51, 3) := by decide +kernel
theorem dX5_picture_8 : decode cX5_picture 8 = .ok (.ifCond .eq 37, 3) := by decide +kernel
theorem dX5_picture_11 : decode cX5_picture 11 = .ok (.iload_n 2, 1) := by decide +kernel
theorem dX5_picture_12 : decode cX5_picture 12 = .ok (.bipush (-9), 2) := by decide +kernel
theorem dX5_picture_14 : decode cX5_picture 14 = .ok (.bipush 6, 2) := by decide +kernel
theorem dX5_picture_16 : decode cX5_picture 16 = .ok (.invokestatic 51, 3) := by decide +kernel
theorem dX5_picture_19 : decode cX5_picture 19 = .ok (.ifCond .eq 26, 3) := by decide +kernel
theorem dX5_picture_22 : decode cX5_picture 22 = .ok (.iload_n 3, 1) := by decide +kernel
theorem dX5_picture_23 : decode cX5_picture 23 = .ok (.iconst 0, 1) := by decide +kernel
theorem dX5_picture_24 : decode cX5_picture 24 = .ok (.iconst 1, 1) := by decide +kernel
theorem dX5_picture_25 : decode cX5_picture 25 = .ok (.invokestatic 51, 3) := by decide +kernel
theorem dX5_picture_28 : decode cX5_picture 28 = .ok (.ifCond .eq 17, 3) := by decide +kernel
theorem dX5_picture_31 : decode cX5_picture 31 = .ok (.iload 4, 2) := by decide +kernel
theorem dX5_picture_33 : decode cX5_picture 33 = .ok (.iconst 0, 1) := by decide +kernel
theorem dX5_picture_34 : decode cX5_picture 34 = .ok (.iconst 4, 1) := by decide +kernel
theorem dX5_picture_35 : decode cX5_picture 35 = .ok (.invokestatic 51, 3) := by decide +kernel
theorem dX5_picture_38 : decode cX5_picture 38 = .ok (.ifCond .eq 7, 3) := by decide +kernel
theorem dX5_picture_41 : decode cX5_picture 41 = .ok (.iconst 1, 1) := by decide +kernel
theorem dX5_picture_42 : decode cX5_picture 42 = .ok (.goto 4, 3) := by decide +kernel
theorem dX5_picture_45 : decode cX5_picture 45 = .ok (.iconst 0, 1) := by decide +kernel
theorem dX5_picture_46 : decode cX5_picture 46 = .ok (.istore 5, 2) := by decide +kernel
theorem dX5_picture_48 : decode cX5_picture 48 = .ok (.aload_n 0, 1) := by decide +kernel
theorem dX5_picture_49 : decode cX5_picture 49 = .ok (.iload 5, 2) := by decide +kernel
theorem dX5_picture_51 : decode cX5_picture 51 = .ok (.ifCond .eq 7, 3) := by decide +kernel
theorem dX5_picture_54 : decode cX5_picture 54 = .ok (.iconst 0, 1) := by decide +kernel
theorem dX5_picture_55 : decode cX5_picture 55 = .ok (.goto 4, 3) := by decide +kernel
theorem dX5_picture_58 : decode cX5_picture 58 = .ok (.iconst 1, 1) := by decide +kernel
theorem dX5_picture_59 : decode cX5_picture 59 = .ok (.putfield 47, 3) := by decide +kernel
theorem dX5_picture_62 : decode cX5_picture 62 = .ok (.aload_n 0, 1) := by decide +kernel
theorem dX5_picture_63 : decode cX5_picture 63 = .ok (.getfield 47, 3) := by decide +kernel
theorem dX5_picture_66 : decode cX5_picture 66 = .ok (.ifCond .le 7, 3) := by decide +kernel
theorem dX5_picture_69 : decode cX5_picture 69 = .ok (.iconst 0, 1) := by decide +kernel
theorem dX5_picture_70 : decode cX5_picture 70 = .ok (.goto 15, 3) := by decide +kernel
theorem dX5_picture_73 : decode cX5_picture 73 = .ok (.aload_n 0, 1) := by decide +kernel
theorem dX5_picture_74 : decode cX5_picture 74 = .ok (.iload_n 1, 1) := by decide +kernel
theorem dX5_picture_75 : decode cX5_picture 75 = .ok (.iload_n 2, 1) := by decide +kernel
theorem dX5_picture_76 : decode cX5_picture 76 = .ok (.iload_n 3, 1) := by decide +kernel
theorem dX5_picture_77 : decode cX5_picture 77 = .ok (.invokestatic 58, 3) := by decide +kernel
theorem dX5_picture_80 : decode cX5_picture 80 = .ok (.iload 4, 2) := by decide +kernel
theorem dX5_picture_82 : decode cX5_picture 82 = .ok (.invokevirtual 166, 3) := by decide +kernel
theorem dX5_picture_85 : decode cX5_picture 85 = .ok (.ireturn, 1) := by decide +kernel
set_option maxRecDepth 20000 in
theorem ggX5_heightIn_X5_height : GoodIn wsX5_heightIn wsX5_height := goodIn_r _ [5, 6, 7, 8, 9, 10, 11, 12, 13, 14, 15, 16, 17, 18, 19, 20, 21, 22, 23] (by decide +kernel) (by decide +kernel)
set_option maxRecDepth 20000 in
theorem gX5_heightIn_X5_height : GoodIn wsX5_heightIn (wsV RX5 66 RX5 yX5_height wsX5_height) := goodIn_app (goodIn_of _ (by decide +kernel)) ggX5_heightIn_X5_height
theorem dX5_heightIn_0 : decode cX5_heightIn 0 = .ok (.iload_n 1, 1) := by decide +kernel
theorem dX5_heightIn_1 : decode cX5_heightIn 1 = .ok (.ifCond .ne 12, 3) := by decide +kernel
theorem dX5_heightIn_4 : decode cX5_heightIn 4 = .ok (.aload_n 0, 1) := by decide +kernel
theorem dX5_heightIn_5 : decode cX5_heightIn 5 = .ok (.iload_n 3, 1) := by decide +kernel
theorem dX5_heightIn_6 : decode cX5_heightIn 6 = .ok (.iload_n 2, 1) := by decide +kernel
theorem dX5_heightIn_7 : decode cX5_heightIn 7 = .ok (.invokevirtual 66, 3) := by decide +kernel
theorem dX5_heightIn_10 : decode cX5_heightIn 10 = .ok (.goto 9, 3) := by decide +kernel
theorem dX5_heightIn_13 : decode cX5_heightIn 13 = .ok (.aload_n 0, 1) := by decide +kernel
theorem dX5_heightIn_14 : decode cX5_heightIn 14 = .ok (.iload_n 2, 1) := by decide +kernel
theorem dX5_heightIn_15 : decode cX5_heightIn 15 = .ok (.iload_n 3, 1) := by decide +kernel
theorem dX5_heightIn_16 : decode cX5_heightIn 16 = .ok (.invokevirtual 66, 3) := by decide +kernel
theorem dX5_heightIn_19 : decode cX5_heightIn 19 = .ok (.ireturn, 1) := by decide +kernel
set_option maxRecDepth 20000 in
theorem ggX5_tallest_X5_heightIn : GoodIn wsX5_tallest wsX5_heightIn := goodIn_r _ [6, 7, 8, 9, 5, 10, 1, 11, 12, 13, 14, 15, 16, 17, 18, 19, 20, 21, 22, 23, 24, 25, 26, 27] (by decide +kernel) (by decide +kernel)
set_option maxRecDepth 20000 in
theorem gX5_tallest_X5_heightIn : GoodIn wsX5_tallest (wsV RX5 169 RX5 yX5_heightIn wsX5_heightIn) := goodIn_app (goodIn_of _ (by decide +kernel)) ggX5_tallest_X5_heightIn
theorem dX5_tallest_0 : decode cX5_tallest 0 = .ok (.iconst 0, 1) := by decide +kernel
theorem dX5_tallest_1 : decode cX5_tallest 1 = .ok (.istore_n 3, 1) := by decide +kernel
theorem dX5_tallest_2 : decode cX5_tallest 2 = .ok (.iconst 0, 1) := by decide +kernel
theorem dX5_tallest_3 : decode cX5_tallest 3 = .ok (.istore 4, 2) := by decide +kernel
theorem dX5_tallest_5 : decode cX5_tallest 5 = .ok (.iload 4, 2) := by decide +kernel
theorem dX5_tallest_7 : decode cX5_tallest 7 = .ok (.aload_n 0, 1) := by decide +kernel
theorem dX5_tallest_8 : decode cX5_tallest 8 = .ok (.getfield 7, 3) := by decide +kernel
theorem dX5_tallest_11 : decode cX5_tallest 11 = .ok (.iconst 0, 1) := by decide +kernel
theorem dX5_tallest_12 : decode cX5_tallest 12 = .ok (.iaload, 1) := by decide +kernel
theorem dX5_tallest_13 : decode cX5_tallest 13 = .ok (.if_icmp .ge 34, 3) := by decide +kernel
theorem dX5_tallest_16 : decode cX5_tallest 16 = .ok (.aload_n 0, 1) := by decide +kernel
theorem dX5_tallest_17 : decode cX5_tallest 17 = .ok (.iload_n 1, 1) := by decide +kernel
theorem dX5_tallest_18 : decode cX5_tallest 18 = .ok (.iload_n 2, 1) := by decide +kernel
theorem dX5_tallest_19 : decode cX5_tallest 19 = .ok (.iload 4, 2) := by decide +kernel
theorem dX5_tallest_21 : decode cX5_tallest 21 = .ok (.invokevirtual 169, 3) := by decide +kernel
theorem dX5_tallest_24 : decode cX5_tallest 24 = .ok (.iload_n 3, 1) := by decide +kernel
theorem dX5_tallest_25 : decode cX5_tallest 25 = .ok (.if_icmp .le 14, 3) := by decide +kernel
theorem dX5_tallest_28 : decode cX5_tallest 28 = .ok (.aload_n 0, 1) := by decide +kernel
theorem dX5_tallest_29 : decode cX5_tallest 29 = .ok (.iload_n 1, 1) := by decide +kernel
theorem dX5_tallest_30 : decode cX5_tallest 30 = .ok (.iload_n 2, 1) := by decide +kernel
theorem dX5_tallest_31 : decode cX5_tallest 31 = .ok (.iload 4, 2) := by decide +kernel
theorem dX5_tallest_33 : decode cX5_tallest 33 = .ok (.invokevirtual 169, 3) := by decide +kernel
theorem dX5_tallest_36 : decode cX5_tallest 36 = .ok (.goto 4, 3) := by decide +kernel
theorem dX5_tallest_39 : decode cX5_tallest 39 = .ok (.iload_n 3, 1) := by decide +kernel
theorem dX5_tallest_40 : decode cX5_tallest 40 = .ok (.istore_n 3, 1) := by decide +kernel
theorem dX5_tallest_41 : decode cX5_tallest 41 = .ok (.iinc 4 1, 3) := by decide +kernel
theorem dX5_tallest_44 : decode cX5_tallest 44 = .ok (.goto (-39), 3) := by decide +kernel
theorem dX5_tallest_47 : decode cX5_tallest 47 = .ok (.iload_n 3, 1) := by decide +kernel
theorem dX5_tallest_48 : decode cX5_tallest 48 = .ok (.ireturn, 1) := by decide +kernel
set_option maxRecDepth 20000 in
theorem ggX5_toldElevation_X5_tallest : GoodIn wsX5_toldElevation wsX5_tallest := goodIn_r _ [6, 1, 7, 8, 9, 5, 10, 11, 12, 13, 14, 15, 16, 17, 18, 19, 20, 21, 22, 23, 24, 25, 26, 27, 28, 29, 30, 31] (by decide +kernel) (by decide +kernel)
set_option maxRecDepth 20000 in
theorem gX5_toldElevation_X5_tallest : GoodIn wsX5_toldElevation (wsV RX5 172 RX5 yX5_tallest wsX5_tallest) := goodIn_app (goodIn_of _ (by decide +kernel)) ggX5_toldElevation_X5_tallest
set_option maxRecDepth 20000 in
theorem ggX5_toldElevation_X5_heightIn : GoodIn wsX5_toldElevation wsX5_heightIn := goodIn_r _ [10, 11, 12, 13, 5, 14, 1, 15, 16, 17, 18, 19, 20, 21, 22, 23, 24, 25, 26, 27, 28, 29, 30, 31] (by decide +kernel) (by decide +kernel)
set_option maxRecDepth 20000 in
theorem gX5_toldElevation_X5_heightIn : GoodIn wsX5_toldElevation (wsV RX5 169 RX5 yX5_heightIn wsX5_heightIn) := goodIn_app (goodIn_of _ (by decide +kernel)) ggX5_toldElevation_X5_heightIn
theorem dX5_toldElevation_0 : decode cX5_toldElevation 0 = .ok (.aload_n 0, 1) := by decide +kernel
theorem dX5_toldElevation_1 : decode cX5_toldElevation 1 = .ok (.iload_n 1, 1) := by decide +kernel
theorem dX5_toldElevation_2 : decode cX5_toldElevation 2 = .ok (.iload_n 2, 1) := by decide +kernel
theorem dX5_toldElevation_3 : decode cX5_toldElevation 3 = .ok (.invokevirtual 172, 3) := by decide +kernel
theorem dX5_toldElevation_6 : decode cX5_toldElevation 6 = .ok (.istore 4, 2) := by decide +kernel
theorem dX5_toldElevation_8 : decode cX5_toldElevation 8 = .ok (.iconst 0, 1) := by decide +kernel
theorem dX5_toldElevation_9 : decode cX5_toldElevation 9 = .ok (.istore 5, 2) := by decide +kernel
theorem dX5_toldElevation_11 : decode cX5_toldElevation 11 = .ok (.iconst 0, 1) := by decide +kernel
theorem dX5_toldElevation_12 : decode cX5_toldElevation 12 = .ok (.istore 6, 2) := by decide +kernel
theorem dX5_toldElevation_14 : decode cX5_toldElevation 14 = .ok (.iconst 0, 1) := by decide +kernel
theorem dX5_toldElevation_15 : decode cX5_toldElevation 15 = .ok (.istore 7, 2) := by decide +kernel
theorem dX5_toldElevation_17 : decode cX5_toldElevation 17 = .ok (.iload 7, 2) := by decide +kernel
theorem dX5_toldElevation_19 : decode cX5_toldElevation 19 = .ok (.aload_n 0, 1) := by decide +kernel
theorem dX5_toldElevation_20 : decode cX5_toldElevation 20 = .ok (.getfield 7, 3) := by decide +kernel
theorem dX5_toldElevation_23 : decode cX5_toldElevation 23 = .ok (.iconst 0, 1) := by decide +kernel
theorem dX5_toldElevation_24 : decode cX5_toldElevation 24 = .ok (.iaload, 1) := by decide +kernel
theorem dX5_toldElevation_25 : decode cX5_toldElevation 25 = .ok (.if_icmp .ge 45, 3) := by decide +kernel
theorem dX5_toldElevation_28 : decode cX5_toldElevation 28 = .ok (.iload 5, 2) := by decide +kernel
theorem dX5_toldElevation_30 : decode cX5_toldElevation 30 = .ok (.aload_n 0, 1) := by decide +kernel
theorem dX5_toldElevation_31 : decode cX5_toldElevation 31 = .ok (.iload_n 1, 1) := by decide +kernel
theorem dX5_toldElevation_32 : decode cX5_toldElevation 32 = .ok (.iload_n 2, 1) := by decide +kernel
theorem dX5_toldElevation_33 : decode cX5_toldElevation 33 = .ok (.iload 7, 2) := by decide +kernel
theorem dX5_toldElevation_35 : decode cX5_toldElevation 35 = .ok (.invokevirtual 169, 3) := by decide +kernel
theorem dX5_toldElevation_38 : decode cX5_toldElevation 38 = .ok (.iload 4, 2) := by decide +kernel
theorem dX5_toldElevation_40 : decode cX5_toldElevation 40 = .ok (.if_icmp .ne 7, 3) := by decide +kernel
theorem dX5_toldElevation_43 : decode cX5_toldElevation 43 = .ok (.iconst 1, 1) := by decide +kernel
theorem dX5_toldElevation_44 : decode cX5_toldElevation 44 = .ok (.goto 4, 3) := by decide +kernel
theorem dX5_toldElevation_47 : decode cX5_toldElevation 47 = .ok (.iconst 0, 1) := by decide +kernel
theorem dX5_toldElevation_48 : decode cX5_toldElevation 48 = .ok (.iadd, 1) := by decide +kernel
theorem dX5_toldElevation_49 : decode cX5_toldElevation 49 = .ok (.istore 5, 2) := by decide +kernel
theorem dX5_toldElevation_51 : decode cX5_toldElevation 51 = .ok (.iload 6, 2) := by decide +kernel
theorem dX5_toldElevation_53 : decode cX5_toldElevation 53 = .ok (.aload_n 0, 1) := by decide +kernel
theorem dX5_toldElevation_54 : decode cX5_toldElevation 54 = .ok (.iload_n 1, 1) := by decide +kernel
theorem dX5_toldElevation_55 : decode cX5_toldElevation 55 = .ok (.iload_n 2, 1) := by decide +kernel
theorem dX5_toldElevation_56 : decode cX5_toldElevation 56 = .ok (.iload 7, 2) := by decide +kernel
theorem dX5_toldElevation_58 : decode cX5_toldElevation 58 = .ok (.invokevirtual 169, 3) := by decide +kernel
theorem dX5_toldElevation_61 : decode cX5_toldElevation 61 = .ok (.iadd, 1) := by decide +kernel
theorem dX5_toldElevation_62 : decode cX5_toldElevation 62 = .ok (.istore 6, 2) := by decide +kernel
theorem dX5_toldElevation_64 : decode cX5_toldElevation 64 = .ok (.iinc 7 1, 3) := by decide +kernel
theorem dX5_toldElevation_67 : decode cX5_toldElevation 67 = .ok (.goto (-50), 3) := by decide +kernel
theorem dX5_toldElevation_70 : decode cX5_toldElevation 70 = .ok (.iload_n 3, 1) := by decide +kernel
theorem dX5_toldElevation_71 : decode cX5_toldElevation 71 = .ok (.ifCond .ne 8, 3) := by decide +kernel
theorem dX5_toldElevation_74 : decode cX5_toldElevation 74 = .ok (.iload 4, 2) := by decide +kernel
theorem dX5_toldElevation_76 : decode cX5_toldElevation 76 = .ok (.goto 15, 3) := by decide +kernel
theorem dX5_toldElevation_79 : decode cX5_toldElevation 79 = .ok (.iload_n 3, 1) := by decide +kernel
theorem dX5_toldElevation_80 : decode cX5_toldElevation 80 = .ok (.iconst 1, 1) := by decide +kernel
theorem dX5_toldElevation_81 : decode cX5_toldElevation 81 = .ok (.if_icmp .ne 8, 3) := by decide +kernel
theorem dX5_toldElevation_84 : decode cX5_toldElevation 84 = .ok (.iload 5, 2) := by decide +kernel
theorem dX5_toldElevation_86 : decode cX5_toldElevation 86 = .ok (.goto 5, 3) := by decide +kernel
theorem dX5_toldElevation_89 : decode cX5_toldElevation 89 = .ok (.iload 6, 2) := by decide +kernel
theorem dX5_toldElevation_91 : decode cX5_toldElevation 91 = .ok (.ireturn, 1) := by decide +kernel
set_option maxRecDepth 20000 in
theorem ggX5_elevation_X5_in : GoodIn wsX5_elevation wsX5_in := goodIn_r _ [6] (by decide +kernel) (by decide +kernel)
set_option maxRecDepth 20000 in
theorem gX5_elevation_X5_in : GoodIn wsX5_elevation (va_wsS RX5 51 yX5_in wsX5_in) := goodIn_app (goodIn_of _ (by decide +kernel)) ggX5_elevation_X5_in
set_option maxRecDepth 20000 in
theorem ggX5_elevation_X5_toldElevation : GoodIn wsX5_elevation wsX5_toldElevation := goodIn_r _ [10, 1, 11, 12, 13, 5, 14, 15, 16, 17, 18, 19, 20, 21, 22, 23, 24, 25, 26, 27, 28, 29, 30, 31, 32, 33, 34, 35, 36, 37, 38, 39] (by decide +kernel) (by decide +kernel)
set_option maxRecDepth 20000 in
theorem gX5_elevation_X5_toldElevation : GoodIn wsX5_elevation (wsV RX5 175 RX5 yX5_toldElevation wsX5_toldElevation) := goodIn_app (goodIn_of _ (by decide +kernel)) ggX5_elevation_X5_toldElevation
theorem dX5_elevation_0 : decode cX5_elevation 0 = .ok (.aload_n 0, 1) := by decide +kernel
theorem dX5_elevation_1 : decode cX5_elevation 1 = .ok (.iload_n 2, 1) := by decide +kernel
theorem dX5_elevation_2 : decode cX5_elevation 2 = .ok (.iconst 0, 1) := by decide +kernel
theorem dX5_elevation_3 : decode cX5_elevation 3 = .ok (.aload_n 0, 1) := by decide +kernel
theorem dX5_elevation_4 : decode cX5_elevation 4 = .ok (.getfield 7, 3) := by decide +kernel
theorem dX5_elevation_7 : decode cX5_elevation 7 = .ok (.iconst 0, 1) := by decide +kernel
theorem dX5_elevation_8 : decode cX5_elevation 8 = .ok (.iaload, 1) := by decide +kernel
theorem dX5_elevation_9 : decode cX5_elevation 9 = .ok (.iconst 1, 1) := by decide +kernel
theorem dX5_elevation_10 : decode cX5_elevation 10 = .ok (.isub, 1) := by decide +kernel
theorem dX5_elevation_11 : decode cX5_elevation 11 = .ok (.invokestatic 51, 3) := by decide +kernel
theorem dX5_elevation_14 : decode cX5_elevation 14 = .ok (.ifCond .ne 7, 3) := by decide +kernel
theorem dX5_elevation_17 : decode cX5_elevation 17 = .ok (.iconst 1, 1) := by decide +kernel
theorem dX5_elevation_18 : decode cX5_elevation 18 = .ok (.goto 26, 3) := by decide +kernel
theorem dX5_elevation_21 : decode cX5_elevation 21 = .ok (.iload_n 1, 1) := by decide +kernel
theorem dX5_elevation_22 : decode cX5_elevation 22 = .ok (.iconst 0, 1) := by decide +kernel
theorem dX5_elevation_23 : decode cX5_elevation 23 = .ok (.iconst 1, 1) := by decide +kernel
theorem dX5_elevation_24 : decode cX5_elevation 24 = .ok (.invokestatic 51, 3) := by decide +kernel
theorem dX5_elevation_27 : decode cX5_elevation 27 = .ok (.ifCond .eq 16, 3) := by decide +kernel
theorem dX5_elevation_30 : decode cX5_elevation 30 = .ok (.iload_n 3, 1) := by decide +kernel
theorem dX5_elevation_31 : decode cX5_elevation 31 = .ok (.iconst 0, 1) := by decide +kernel
theorem dX5_elevation_32 : decode cX5_elevation 32 = .ok (.iconst 2, 1) := by decide +kernel
theorem dX5_elevation_33 : decode cX5_elevation 33 = .ok (.invokestatic 51, 3) := by decide +kernel
theorem dX5_elevation_36 : decode cX5_elevation 36 = .ok (.ifCond .eq 7, 3) := by decide +kernel
theorem dX5_elevation_39 : decode cX5_elevation 39 = .ok (.iconst 0, 1) := by decide +kernel
theorem dX5_elevation_40 : decode cX5_elevation 40 = .ok (.goto 4, 3) := by decide +kernel
theorem dX5_elevation_43 : decode cX5_elevation 43 = .ok (.iconst 2, 1) := by decide +kernel
theorem dX5_elevation_44 : decode cX5_elevation 44 = .ok (.putfield 47, 3) := by decide +kernel
theorem dX5_elevation_47 : decode cX5_elevation 47 = .ok (.aload_n 0, 1) := by decide +kernel
theorem dX5_elevation_48 : decode cX5_elevation 48 = .ok (.getfield 47, 3) := by decide +kernel
theorem dX5_elevation_51 : decode cX5_elevation 51 = .ok (.ifCond .le 7, 3) := by decide +kernel
theorem dX5_elevation_54 : decode cX5_elevation 54 = .ok (.iconst 0, 1) := by decide +kernel
theorem dX5_elevation_55 : decode cX5_elevation 55 = .ok (.goto 10, 3) := by decide +kernel
theorem dX5_elevation_58 : decode cX5_elevation 58 = .ok (.aload_n 0, 1) := by decide +kernel
theorem dX5_elevation_59 : decode cX5_elevation 59 = .ok (.iload_n 1, 1) := by decide +kernel
theorem dX5_elevation_60 : decode cX5_elevation 60 = .ok (.iload_n 2, 1) := by decide +kernel
theorem dX5_elevation_61 : decode cX5_elevation 61 = .ok (.iload_n 3, 1) := by decide +kernel
theorem dX5_elevation_62 : decode cX5_elevation 62 = .ok (.invokevirtual 175, 3) := by decide +kernel
theorem dX5_elevation_65 : decode cX5_elevation 65 = .ok (.ireturn, 1) := by decide +kernel
set_option maxRecDepth 20000 in
theorem ggX5_cutAt_X5_height : GoodIn wsX5_cutAt wsX5_height := goodIn_r _ [6, 1, 7, 8, 9, 10, 11, 12, 13, 14, 15, 16, 17, 18, 19, 20, 21, 22, 23] (by decide +kernel) (by decide +kernel)
set_option maxRecDepth 20000 in
theorem gX5_cutAt_X5_height : GoodIn wsX5_cutAt (wsV RX5 66 RX5 yX5_height wsX5_height) := goodIn_app (goodIn_of _ (by decide +kernel)) ggX5_cutAt_X5_height
theorem dX5_cutAt_0 : decode cX5_cutAt 0 = .ok (.iconst 0, 1) := by decide +kernel
theorem dX5_cutAt_1 : decode cX5_cutAt 1 = .ok (.istore_n 3, 1) := by decide +kernel
theorem dX5_cutAt_2 : decode cX5_cutAt 2 = .ok (.iconst 0, 1) := by decide +kernel
theorem dX5_cutAt_3 : decode cX5_cutAt 3 = .ok (.istore 4, 2) := by decide +kernel
theorem dX5_cutAt_5 : decode cX5_cutAt 5 = .ok (.iload 4, 2) := by decide +kernel
theorem dX5_cutAt_7 : decode cX5_cutAt 7 = .ok (.aload_n 0, 1) := by decide +kernel
theorem dX5_cutAt_8 : decode cX5_cutAt 8 = .ok (.getfield 7, 3) := by decide +kernel
theorem dX5_cutAt_11 : decode cX5_cutAt 11 = .ok (.iconst 0, 1) := by decide +kernel
theorem dX5_cutAt_12 : decode cX5_cutAt 12 = .ok (.iaload, 1) := by decide +kernel
theorem dX5_cutAt_13 : decode cX5_cutAt 13 = .ok (.if_icmp .ge 31, 3) := by decide +kernel
theorem dX5_cutAt_16 : decode cX5_cutAt 16 = .ok (.iload_n 3, 1) := by decide +kernel
theorem dX5_cutAt_17 : decode cX5_cutAt 17 = .ok (.aload_n 0, 1) := by decide +kernel
theorem dX5_cutAt_18 : decode cX5_cutAt 18 = .ok (.iload 4, 2) := by decide +kernel
theorem dX5_cutAt_20 : decode cX5_cutAt 20 = .ok (.iload_n 2, 1) := by decide +kernel
theorem dX5_cutAt_21 : decode cX5_cutAt 21 = .ok (.invokevirtual 66, 3) := by decide +kernel
theorem dX5_cutAt_24 : decode cX5_cutAt 24 = .ok (.iload_n 1, 1) := by decide +kernel
theorem dX5_cutAt_25 : decode cX5_cutAt 25 = .ok (.if_icmp .le 10, 3) := by decide +kernel
theorem dX5_cutAt_28 : decode cX5_cutAt 28 = .ok (.iconst 1, 1) := by decide +kernel
theorem dX5_cutAt_29 : decode cX5_cutAt 29 = .ok (.iload 4, 2) := by decide +kernel
theorem dX5_cutAt_31 : decode cX5_cutAt 31 = .ok (.ishl, 1) := by decide +kernel
theorem dX5_cutAt_32 : decode cX5_cutAt 32 = .ok (.goto 4, 3) := by decide +kernel
theorem dX5_cutAt_35 : decode cX5_cutAt 35 = .ok (.iconst 0, 1) := by decide +kernel
theorem dX5_cutAt_36 : decode cX5_cutAt 36 = .ok (.ior, 1) := by decide +kernel
theorem dX5_cutAt_37 : decode cX5_cutAt 37 = .ok (.istore_n 3, 1) := by decide +kernel
theorem dX5_cutAt_38 : decode cX5_cutAt 38 = .ok (.iinc 4 1, 3) := by decide +kernel
theorem dX5_cutAt_41 : decode cX5_cutAt 41 = .ok (.goto (-36), 3) := by decide +kernel
theorem dX5_cutAt_44 : decode cX5_cutAt 44 = .ok (.iload_n 3, 1) := by decide +kernel
theorem dX5_cutAt_45 : decode cX5_cutAt 45 = .ok (.ireturn, 1) := by decide +kernel
set_option maxRecDepth 20000 in
theorem ggX5_cut_X5_in : GoodIn wsX5_cut wsX5_in := goodIn_r _ [6] (by decide +kernel) (by decide +kernel)
set_option maxRecDepth 20000 in
theorem gX5_cut_X5_in : GoodIn wsX5_cut (va_wsS RX5 51 yX5_in wsX5_in) := goodIn_app (goodIn_of _ (by decide +kernel)) ggX5_cut_X5_in
set_option maxRecDepth 20000 in
theorem ggX5_cut_X5_cutAt : GoodIn wsX5_cut wsX5_cutAt := goodIn_r _ [10, 1, 11, 12, 13, 5, 14, 15, 16, 17, 18, 19, 20, 21, 22, 23, 24, 25, 26, 27, 28, 29, 30, 31] (by decide +kernel) (by decide +kernel)
set_option maxRecDepth 20000 in
theorem gX5_cut_X5_cutAt : GoodIn wsX5_cut (wsV RX5 178 RX5 yX5_cutAt wsX5_cutAt) := goodIn_app (goodIn_of _ (by decide +kernel)) ggX5_cut_X5_cutAt
theorem dX5_cut_0 : decode cX5_cut 0 = .ok (.aload_n 0, 1) := by decide +kernel
theorem dX5_cut_1 : decode cX5_cut 1 = .ok (.iload_n 2, 1) := by decide +kernel
theorem dX5_cut_2 : decode cX5_cut 2 = .ok (.iconst 0, 1) := by decide +kernel
theorem dX5_cut_3 : decode cX5_cut 3 = .ok (.aload_n 0, 1) := by decide +kernel
theorem dX5_cut_4 : decode cX5_cut 4 = .ok (.getfield 7, 3) := by decide +kernel
theorem dX5_cut_7 : decode cX5_cut 7 = .ok (.iconst 0, 1) := by decide +kernel
theorem dX5_cut_8 : decode cX5_cut 8 = .ok (.iaload, 1) := by decide +kernel
theorem dX5_cut_9 : decode cX5_cut 9 = .ok (.iconst 1, 1) := by decide +kernel
theorem dX5_cut_10 : decode cX5_cut 10 = .ok (.isub, 1) := by decide +kernel
theorem dX5_cut_11 : decode cX5_cut 11 = .ok (.invokestatic 51, 3) := by decide +kernel
theorem dX5_cut_14 : decode cX5_cut 14 = .ok (.ifCond .ne 7, 3) := by decide +kernel
theorem dX5_cut_17 : decode cX5_cut 17 = .ok (.iconst 1, 1) := by decide +kernel
theorem dX5_cut_18 : decode cX5_cut 18 = .ok (.goto 18, 3) := by decide +kernel
theorem dX5_cut_21 : decode cX5_cut 21 = .ok (.iload_n 1, 1) := by decide +kernel
theorem dX5_cut_22 : decode cX5_cut 22 = .ok (.iconst 0, 1) := by decide +kernel
theorem dX5_cut_23 : decode cX5_cut 23 = .ok (.bipush 7, 2) := by decide +kernel
theorem dX5_cut_25 : decode cX5_cut 25 = .ok (.invokestatic 51, 3) := by decide +kernel
theorem dX5_cut_28 : decode cX5_cut 28 = .ok (.ifCond .eq 7, 3) := by decide +kernel
theorem dX5_cut_31 : decode cX5_cut 31 = .ok (.iconst 0, 1) := by decide +kernel
theorem dX5_cut_32 : decode cX5_cut 32 = .ok (.goto 4, 3) := by decide +kernel
theorem dX5_cut_35 : decode cX5_cut 35 = .ok (.iconst 2, 1) := by decide +kernel
theorem dX5_cut_36 : decode cX5_cut 36 = .ok (.putfield 47, 3) := by decide +kernel
theorem dX5_cut_39 : decode cX5_cut 39 = .ok (.aload_n 0, 1) := by decide +kernel
theorem dX5_cut_40 : decode cX5_cut 40 = .ok (.getfield 47, 3) := by decide +kernel
theorem dX5_cut_43 : decode cX5_cut 43 = .ok (.ifCond .le 7, 3) := by decide +kernel
theorem dX5_cut_46 : decode cX5_cut 46 = .ok (.iconst 0, 1) := by decide +kernel
theorem dX5_cut_47 : decode cX5_cut 47 = .ok (.goto 9, 3) := by decide +kernel
theorem dX5_cut_50 : decode cX5_cut 50 = .ok (.aload_n 0, 1) := by decide +kernel
theorem dX5_cut_51 : decode cX5_cut 51 = .ok (.iload_n 1, 1) := by decide +kernel
theorem dX5_cut_52 : decode cX5_cut 52 = .ok (.iload_n 2, 1) := by decide +kernel
theorem dX5_cut_53 : decode cX5_cut 53 = .ok (.invokevirtual 178, 3) := by decide +kernel
theorem dX5_cut_56 : decode cX5_cut 56 = .ok (.ireturn, 1) := by decide +kernel
theorem dX5_facesSeen_0 : decode cX5_facesSeen 0 = .ok (.iconst 0, 1) := by decide +kernel
theorem dX5_facesSeen_1 : decode cX5_facesSeen 1 = .ok (.istore_n 1, 1) := by decide +kernel
theorem dX5_facesSeen_2 : decode cX5_facesSeen 2 = .ok (.iconst 0, 1) := by decide +kernel
theorem dX5_facesSeen_3 : decode cX5_facesSeen 3 = .ok (.istore_n 2, 1) := by decide +kernel
theorem dX5_facesSeen_4 : decode cX5_facesSeen 4 = .ok (.iload_n 2, 1) := by decide +kernel
theorem dX5_facesSeen_5 : decode cX5_facesSeen 5 = .ok (.sipush 864, 3) := by decide +kernel
theorem dX5_facesSeen_8 : decode cX5_facesSeen 8 = .ok (.if_icmp .ge 26, 3) := by decide +kernel
theorem dX5_facesSeen_11 : decode cX5_facesSeen 11 = .ok (.iload_n 1, 1) := by decide +kernel
theorem dX5_facesSeen_12 : decode cX5_facesSeen 12 = .ok (.aload_n 0, 1) := by decide +kernel
theorem dX5_facesSeen_13 : decode cX5_facesSeen 13 = .ok (.getfield 40, 3) := by decide +kernel
theorem dX5_facesSeen_16 : decode cX5_facesSeen 16 = .ok (.iload_n 2, 1) := by decide +kernel
theorem dX5_facesSeen_17 : decode cX5_facesSeen 17 = .ok (.iaload, 1) := by decide +kernel
theorem dX5_facesSeen_18 : decode cX5_facesSeen 18 = .ok (.ifCond .le 7, 3) := by decide +kernel
theorem dX5_facesSeen_21 : decode cX5_facesSeen 21 = .ok (.iconst 1, 1) := by decide +kernel
theorem dX5_facesSeen_22 : decode cX5_facesSeen 22 = .ok (.goto 4, 3) := by decide +kernel
theorem dX5_facesSeen_25 : decode cX5_facesSeen 25 = .ok (.iconst 0, 1) := by decide +kernel
theorem dX5_facesSeen_26 : decode cX5_facesSeen 26 = .ok (.iadd, 1) := by decide +kernel
theorem dX5_facesSeen_27 : decode cX5_facesSeen 27 = .ok (.istore_n 1, 1) := by decide +kernel
theorem dX5_facesSeen_28 : decode cX5_facesSeen 28 = .ok (.iinc 2 1, 3) := by decide +kernel
theorem dX5_facesSeen_31 : decode cX5_facesSeen 31 = .ok (.goto (-27), 3) := by decide +kernel
theorem dX5_facesSeen_34 : decode cX5_facesSeen 34 = .ok (.iload_n 1, 1) := by decide +kernel
theorem dX5_facesSeen_35 : decode cX5_facesSeen 35 = .ok (.ireturn, 1) := by decide +kernel
set_option maxRecDepth 20000 in
theorem ggX5_trianglesSeen_X5_toldTriangle : GoodIn wsX5_trianglesSeen wsX5_toldTriangle := goodIn_r _ [6, 1, 7, 8, 9, 10, 5, 11, 12, 13, 14, 15, 16, 17, 18, 19, 20, 21, 22, 23, 24, 25, 26, 27, 28, 29] (by decide +kernel) (by decide +kernel)
set_option maxRecDepth 20000 in
theorem gX5_trianglesSeen_X5_toldTriangle : GoodIn wsX5_trianglesSeen (wsV RX5 163 RX5 yX5_toldTriangle wsX5_toldTriangle) := goodIn_app (goodIn_of _ (by decide +kernel)) ggX5_trianglesSeen_X5_toldTriangle
theorem dX5_trianglesSeen_0 : decode cX5_trianglesSeen 0 = .ok (.iconst 0, 1) := by decide +kernel
theorem dX5_trianglesSeen_1 : decode cX5_trianglesSeen 1 = .ok (.istore_n 2, 1) := by decide +kernel
theorem dX5_trianglesSeen_2 : decode cX5_trianglesSeen 2 = .ok (.iconst 0, 1) := by decide +kernel
theorem dX5_trianglesSeen_3 : decode cX5_trianglesSeen 3 = .ok (.istore_n 3, 1) := by decide +kernel
theorem dX5_trianglesSeen_4 : decode cX5_trianglesSeen 4 = .ok (.iload_n 3, 1) := by decide +kernel
theorem dX5_trianglesSeen_5 : decode cX5_trianglesSeen 5 = .ok (.sipush 512, 3) := by decide +kernel
theorem dX5_trianglesSeen_8 : decode cX5_trianglesSeen 8 = .ok (.if_icmp .ge 42, 3) := by decide +kernel
theorem dX5_trianglesSeen_11 : decode cX5_trianglesSeen 11 = .ok (.iload_n 2, 1) := by decide +kernel
theorem dX5_trianglesSeen_12 : decode cX5_trianglesSeen 12 = .ok (.aload_n 0, 1) := by decide +kernel
theorem dX5_trianglesSeen_13 : decode cX5_trianglesSeen 13 = .ok (.getfield 31, 3) := by decide +kernel
theorem dX5_trianglesSeen_16 : decode cX5_trianglesSeen 16 = .ok (.iload_n 3, 1) := by decide +kernel
theorem dX5_trianglesSeen_17 : decode cX5_trianglesSeen 17 = .ok (.iaload, 1) := by decide +kernel
theorem dX5_trianglesSeen_18 : decode cX5_trianglesSeen 18 = .ok (.iconst (-1), 1) := by decide +kernel
theorem dX5_trianglesSeen_19 : decode cX5_trianglesSeen 19 = .ok (.if_icmp .eq 22, 3) := by decide +kernel
theorem dX5_trianglesSeen_22 : decode cX5_trianglesSeen 22 = .ok (.iload_n 1, 1) := by decide +kernel
theorem dX5_trianglesSeen_23 : decode cX5_trianglesSeen 23 = .ok (.iconst (-1), 1) := by decide +kernel
theorem dX5_trianglesSeen_24 : decode cX5_trianglesSeen 24 = .ok (.if_icmp .eq 13, 3) := by decide +kernel
theorem dX5_trianglesSeen_27 : decode cX5_trianglesSeen 27 = .ok (.aload_n 0, 1) := by decide +kernel
theorem dX5_trianglesSeen_28 : decode cX5_trianglesSeen 28 = .ok (.iload_n 3, 1) := by decide +kernel
theorem dX5_trianglesSeen_29 : decode cX5_trianglesSeen 29 = .ok (.iconst 4, 1) := by decide +kernel
theorem dX5_trianglesSeen_30 : decode cX5_trianglesSeen 30 = .ok (.invokevirtual 163, 3) := by decide +kernel
theorem dX5_trianglesSeen_33 : decode cX5_trianglesSeen 33 = .ok (.iload_n 1, 1) := by decide +kernel
theorem dX5_trianglesSeen_34 : decode cX5_trianglesSeen 34 = .ok (.if_icmp .ne 7, 3) := by decide +kernel
theorem dX5_trianglesSeen_37 : decode cX5_trianglesSeen 37 = .ok (.iconst 1, 1) := by decide +kernel
theorem dX5_trianglesSeen_38 : decode cX5_trianglesSeen 38 = .ok (.goto 4, 3) := by decide +kernel
theorem dX5_trianglesSeen_41 : decode cX5_trianglesSeen 41 = .ok (.iconst 0, 1) := by decide +kernel
theorem dX5_trianglesSeen_42 : decode cX5_trianglesSeen 42 = .ok (.iadd, 1) := by decide +kernel
theorem dX5_trianglesSeen_43 : decode cX5_trianglesSeen 43 = .ok (.istore_n 2, 1) := by decide +kernel
theorem dX5_trianglesSeen_44 : decode cX5_trianglesSeen 44 = .ok (.iinc 3 1, 3) := by decide +kernel
theorem dX5_trianglesSeen_47 : decode cX5_trianglesSeen 47 = .ok (.goto (-43), 3) := by decide +kernel
theorem dX5_trianglesSeen_50 : decode cX5_trianglesSeen 50 = .ok (.iload_n 2, 1) := by decide +kernel
theorem dX5_trianglesSeen_51 : decode cX5_trianglesSeen 51 = .ok (.ireturn, 1) := by decide +kernel
theorem dX5_greatestHeight_0 : decode cX5_greatestHeight 0 = .ok (.iconst 0, 1) := by decide +kernel
theorem dX5_greatestHeight_1 : decode cX5_greatestHeight 1 = .ok (.istore_n 1, 1) := by decide +kernel
theorem dX5_greatestHeight_2 : decode cX5_greatestHeight 2 = .ok (.iconst 0, 1) := by decide +kernel
theorem dX5_greatestHeight_3 : decode cX5_greatestHeight 3 = .ok (.istore_n 2, 1) := by decide +kernel
theorem dX5_greatestHeight_4 : decode cX5_greatestHeight 4 = .ok (.iload_n 2, 1) := by decide +kernel
theorem dX5_greatestHeight_5 : decode cX5_greatestHeight 5 = .ok (.bipush 36, 2) := by decide +kernel
theorem dX5_greatestHeight_7 : decode cX5_greatestHeight 7 = .ok (.if_icmp .ge 34, 3) := by decide +kernel
theorem dX5_greatestHeight_10 : decode cX5_greatestHeight 10 = .ok (.aload_n 0, 1) := by decide +kernel
theorem dX5_greatestHeight_11 : decode cX5_greatestHeight 11 = .ok (.getfield 7, 3) := by decide +kernel
theorem dX5_greatestHeight_14 : decode cX5_greatestHeight 14 = .ok (.iconst 2, 1) := by decide +kernel
theorem dX5_greatestHeight_15 : decode cX5_greatestHeight 15 = .ok (.iload_n 2, 1) := by decide +kernel
theorem dX5_greatestHeight_16 : decode cX5_greatestHeight 16 = .ok (.iadd, 1) := by decide +kernel
theorem dX5_greatestHeight_17 : decode cX5_greatestHeight 17 = .ok (.iaload, 1) := by decide +kernel
theorem dX5_greatestHeight_18 : decode cX5_greatestHeight 18 = .ok (.iload_n 1, 1) := by decide +kernel
theorem dX5_greatestHeight_19 : decode cX5_greatestHeight 19 = .ok (.if_icmp .le 14, 3) := by decide +kernel
theorem dX5_greatestHeight_22 : decode cX5_greatestHeight 22 = .ok (.aload_n 0, 1) := by decide +kernel
theorem dX5_greatestHeight_23 : decode cX5_greatestHeight 23 = .ok (.getfield 7, 3) := by decide +kernel
theorem dX5_greatestHeight_26 : decode cX5_greatestHeight 26 = .ok (.iconst 2, 1) := by decide +kernel
theorem dX5_greatestHeight_27 : decode cX5_greatestHeight 27 = .ok (.iload_n 2, 1) := by decide +kernel
theorem dX5_greatestHeight_28 : decode cX5_greatestHeight 28 = .ok (.iadd, 1) := by decide +kernel
theorem dX5_greatestHeight_29 : decode cX5_greatestHeight 29 = .ok (.iaload, 1) := by decide +kernel
theorem dX5_greatestHeight_30 : decode cX5_greatestHeight 30 = .ok (.goto 4, 3) := by decide +kernel
theorem dX5_greatestHeight_33 : decode cX5_greatestHeight 33 = .ok (.iload_n 1, 1) := by decide +kernel
theorem dX5_greatestHeight_34 : decode cX5_greatestHeight 34 = .ok (.istore_n 1, 1) := by decide +kernel
theorem dX5_greatestHeight_35 : decode cX5_greatestHeight 35 = .ok (.iinc 2 1, 3) := by decide +kernel
theorem dX5_greatestHeight_38 : decode cX5_greatestHeight 38 = .ok (.goto (-34), 3) := by decide +kernel
theorem dX5_greatestHeight_41 : decode cX5_greatestHeight 41 = .ok (.iload_n 1, 1) := by decide +kernel
theorem dX5_greatestHeight_42 : decode cX5_greatestHeight 42 = .ok (.ireturn, 1) := by decide +kernel
set_option maxRecDepth 20000 in
theorem ggX5_counted_X5_layPicture : GoodIn wsX5_counted wsX5_layPicture := goodIn_r _ [7, 8, 9, 1, 10, 11, 12, 13, 6, 14, 15, 16, 17, 18, 19, 20, 21, 22, 23, 24, 25, 26, 77, 78, 79, 80, 81, 82, 83, 84, 85, 86, 87, 88, 89, 90, 91, 92, 93] (by decide +kernel) (by decide +kernel)
set_option maxRecDepth 20000 in
theorem gX5_counted_X5_layPicture : GoodIn wsX5_counted (wsV RX5 78 RX5 yX5_layPicture wsX5_layPicture) := goodIn_app (goodIn_of _ (by decide +kernel)) ggX5_counted_X5_layPicture
set_option maxRecDepth 20000 in
theorem ggX5_counted_X5_blockMany : GoodIn wsX5_counted wsX5_blockMany := goodIn_r _ [30, 1, 77, 78, 79, 80, 81, 82, 83, 84, 85, 86, 87, 88, 89, 90, 91, 92, 93] (by decide +kernel) (by decide +kernel)
set_option maxRecDepth 20000 in
theorem gX5_counted_X5_blockMany : GoodIn wsX5_counted (wsV RX5 181 RX5 yX5_blockMany wsX5_blockMany) := goodIn_app (goodIn_of _ (by decide +kernel)) ggX5_counted_X5_blockMany
set_option maxRecDepth 20000 in
theorem ggX5_counted_X5_seenMany : GoodIn wsX5_counted wsX5_seenMany := goodIn_r _ [34, 35, 36, 37, 6, 38, 9, 77, 78, 79, 80, 81, 82, 83, 84, 85, 86, 87, 88, 89, 90, 91, 92, 93] (by decide +kernel) (by decide +kernel)
set_option maxRecDepth 20000 in
theorem gX5_counted_X5_seenMany : GoodIn wsX5_counted (wsV RX5 81 RX5 yX5_seenMany wsX5_seenMany) := goodIn_app (goodIn_of _ (by decide +kernel)) ggX5_counted_X5_seenMany
set_option maxRecDepth 20000 in
theorem ggX5_counted_X5_facesSeen : GoodIn wsX5_counted wsX5_facesSeen := goodIn_r _ [42, 9, 77, 78, 79, 80, 81, 82, 83, 84, 85, 86, 87, 88, 89, 90, 91, 92, 93] (by decide +kernel) (by decide +kernel)
set_option maxRecDepth 20000 in
theorem gX5_counted_X5_facesSeen : GoodIn wsX5_counted (wsV RX5 184 RX5 yX5_facesSeen wsX5_facesSeen) := goodIn_app (goodIn_of _ (by decide +kernel)) ggX5_counted_X5_facesSeen
set_option maxRecDepth 20000 in
theorem ggX5_counted_X5_trianglesSeen : GoodIn wsX5_counted wsX5_trianglesSeen := goodIn_r _ [46, 8, 47, 48, 49, 6, 50, 10, 51, 52, 53, 54, 1, 77, 78, 79, 80, 81, 82, 83, 84, 85, 86, 87, 88, 89, 90, 91, 92, 93] (by decide +kernel) (by decide +kernel)
set_option maxRecDepth 20000 in
theorem gX5_counted_X5_trianglesSeen : GoodIn wsX5_counted (wsV RX5 187 RX5 yX5_trianglesSeen wsX5_trianglesSeen) := goodIn_app (goodIn_of _ (by decide +kernel)) ggX5_counted_X5_trianglesSeen
set_option maxRecDepth 20000 in
theorem ggX5_counted_X5_shaded : GoodIn wsX5_counted wsX5_shaded := goodIn_r _ [58, 1, 59, 60, 61, 6, 62, 63, 64, 65, 66, 67, 68, 69, 70, 71, 72, 11, 12, 13, 14, 77, 78, 79, 80, 81, 82, 83, 84, 85, 86, 87, 88, 89, 90, 91, 92, 93] (by decide +kernel) (by decide +kernel)
set_option maxRecDepth 20000 in
theorem gX5_counted_X5_shaded : GoodIn wsX5_counted (wsV RX5 190 RX5 yX5_shaded wsX5_shaded) := goodIn_app (goodIn_of _ (by decide +kernel)) ggX5_counted_X5_shaded
set_option maxRecDepth 20000 in
theorem ggX5_counted_X5_greatestHeight : GoodIn wsX5_counted wsX5_greatestHeight := goodIn_r _ [76, 1, 77, 78, 79, 80, 81, 82, 83, 84, 85, 86, 87, 88, 89, 90, 91, 92, 93] (by decide +kernel) (by decide +kernel)
set_option maxRecDepth 20000 in
theorem gX5_counted_X5_greatestHeight : GoodIn wsX5_counted (wsV RX5 193 RX5 yX5_greatestHeight wsX5_greatestHeight) := goodIn_app (goodIn_of _ (by decide +kernel)) ggX5_counted_X5_greatestHeight
theorem dX5_counted_0 : decode cX5_counted 0 = .ok (.aload_n 0, 1) := by decide +kernel
theorem dX5_counted_1 : decode cX5_counted 1 = .ok (.invokevirtual 78, 3) := by decide +kernel
theorem dX5_counted_4 : decode cX5_counted 4 = .ok (.iload_n 1, 1) := by decide +kernel
theorem dX5_counted_5 : decode cX5_counted 5 = .ok (.tableswitch 122 0 11 #[63, 70, 75, 80, 85, 91, 91, 91, 91, 99, 110, 115], 63) := by decide +kernel
theorem dX5_counted_68 : decode cX5_counted 68 = .ok (.aload_n 0, 1) := by decide +kernel
theorem dX5_counted_69 : decode cX5_counted 69 = .ok (.getfield 7, 3) := by decide +kernel
theorem dX5_counted_72 : decode cX5_counted 72 = .ok (.iconst 0, 1) := by decide +kernel
theorem dX5_counted_73 : decode cX5_counted 73 = .ok (.iaload, 1) := by decide +kernel
theorem dX5_counted_74 : decode cX5_counted 74 = .ok (.ireturn, 1) := by decide +kernel
theorem dX5_counted_75 : decode cX5_counted 75 = .ok (.aload_n 0, 1) := by decide +kernel
theorem dX5_counted_76 : decode cX5_counted 76 = .ok (.invokevirtual 181, 3) := by decide +kernel
theorem dX5_counted_79 : decode cX5_counted 79 = .ok (.ireturn, 1) := by decide +kernel
theorem dX5_counted_80 : decode cX5_counted 80 = .ok (.aload_n 0, 1) := by decide +kernel
theorem dX5_counted_81 : decode cX5_counted 81 = .ok (.invokevirtual 81, 3) := by decide +kernel
theorem dX5_counted_84 : decode cX5_counted 84 = .ok (.ireturn, 1) := by decide +kernel
theorem dX5_counted_85 : decode cX5_counted 85 = .ok (.aload_n 0, 1) := by decide +kernel
theorem dX5_counted_86 : decode cX5_counted 86 = .ok (.invokevirtual 184, 3) := by decide +kernel
theorem dX5_counted_89 : decode cX5_counted 89 = .ok (.ireturn, 1) := by decide +kernel
theorem dX5_counted_90 : decode cX5_counted 90 = .ok (.aload_n 0, 1) := by decide +kernel
theorem dX5_counted_91 : decode cX5_counted 91 = .ok (.iconst (-1), 1) := by decide +kernel
theorem dX5_counted_92 : decode cX5_counted 92 = .ok (.invokevirtual 187, 3) := by decide +kernel
theorem dX5_counted_95 : decode cX5_counted 95 = .ok (.ireturn, 1) := by decide +kernel
theorem dX5_counted_96 : decode cX5_counted 96 = .ok (.aload_n 0, 1) := by decide +kernel
theorem dX5_counted_97 : decode cX5_counted 97 = .ok (.iload_n 1, 1) := by decide +kernel
theorem dX5_counted_98 : decode cX5_counted 98 = .ok (.iconst 5, 1) := by decide +kernel
theorem dX5_counted_99 : decode cX5_counted 99 = .ok (.isub, 1) := by decide +kernel
theorem dX5_counted_100 : decode cX5_counted 100 = .ok (.invokevirtual 187, 3) := by decide +kernel
theorem dX5_counted_103 : decode cX5_counted 103 = .ok (.ireturn, 1) := by decide +kernel
theorem dX5_counted_104 : decode cX5_counted 104 = .ok (.aload_n 0, 1) := by decide +kernel
theorem dX5_counted_105 : decode cX5_counted 105 = .ok (.aload_n 0, 1) := by decide +kernel
theorem dX5_counted_106 : decode cX5_counted 106 = .ok (.getfield 7, 3) := by decide +kernel
theorem dX5_counted_109 : decode cX5_counted 109 = .ok (.iconst 1, 1) := by decide +kernel
theorem dX5_counted_110 : decode cX5_counted 110 = .ok (.iaload, 1) := by decide +kernel
theorem dX5_counted_111 : decode cX5_counted 111 = .ok (.invokevirtual 190, 3) := by decide +kernel
theorem dX5_counted_114 : decode cX5_counted 114 = .ok (.ireturn, 1) := by decide +kernel
theorem dX5_counted_115 : decode cX5_counted 115 = .ok (.aload_n 0, 1) := by decide +kernel
theorem dX5_counted_116 : decode cX5_counted 116 = .ok (.invokevirtual 193, 3) := by decide +kernel
theorem dX5_counted_119 : decode cX5_counted 119 = .ok (.ireturn, 1) := by decide +kernel
theorem dX5_counted_120 : decode cX5_counted 120 = .ok (.aload_n 0, 1) := by decide +kernel
theorem dX5_counted_121 : decode cX5_counted 121 = .ok (.getfield 7, 3) := by decide +kernel
theorem dX5_counted_124 : decode cX5_counted 124 = .ok (.iconst 1, 1) := by decide +kernel
theorem dX5_counted_125 : decode cX5_counted 125 = .ok (.iaload, 1) := by decide +kernel
theorem dX5_counted_126 : decode cX5_counted 126 = .ok (.ireturn, 1) := by decide +kernel
theorem dX5_counted_127 : decode cX5_counted 127 = .ok (.aload_n 0, 1) := by decide +kernel
theorem dX5_counted_128 : decode cX5_counted 128 = .ok (.getfield 55, 3) := by decide +kernel
theorem dX5_counted_131 : decode cX5_counted 131 = .ok (.ireturn, 1) := by decide +kernel
set_option maxRecDepth 20000 in
theorem ggX5_count_X5_in : GoodIn wsX5_count wsX5_in := goodIn_r _ [5] (by decide +kernel) (by decide +kernel)
set_option maxRecDepth 20000 in
theorem gX5_count_X5_in : GoodIn wsX5_count (va_wsS RX5 51 yX5_in wsX5_in) := goodIn_app (goodIn_of _ (by decide +kernel)) ggX5_count_X5_in
set_option maxRecDepth 20000 in
theorem ggX5_count_X5_counted : GoodIn wsX5_count wsX5_counted := goodIn_r _ [9, 10, 11, 12, 13, 14, 4, 15, 16, 17, 18, 19, 20, 21, 22, 23, 24, 25, 26, 27, 28, 29, 30, 31, 32, 33, 34, 35, 36, 37, 38, 39, 40, 41, 42, 43, 44, 45, 46, 47, 48, 49, 50, 51, 52, 53, 54, 55, 56, 57, 58, 59, 60, 61, 62, 63, 64, 65, 66, 67, 68, 69, 70, 71, 72, 73, 74, 75, 76, 77, 2, 3, 5, 78, 79, 80, 81, 82, 83, 84, 85, 86, 87, 88, 89, 90, 91, 92, 93, 94, 95, 96, 97, 98] (by decide +kernel) (by decide +kernel)
set_option maxRecDepth 20000 in
theorem gX5_count_X5_counted : GoodIn wsX5_count (wsV RX5 196 RX5 yX5_counted wsX5_counted) := goodIn_app (goodIn_of _ (by decide +kernel)) ggX5_count_X5_counted
theorem dX5_count_0 : decode cX5_count 0 = .ok (.aload_n 0, 1) := by decide +kernel
theorem dX5_count_1 : decode cX5_count 1 = .ok (.iload_n 1, 1) := by decide +kernel
theorem dX5_count_2 : decode cX5_count 2 = .ok (.iconst 0, 1) := by decide +kernel
theorem dX5_count_3 : decode cX5_count 3 = .ok (.bipush 12, 2) := by decide +kernel
theorem dX5_count_5 : decode cX5_count 5 = .ok (.invokestatic 51, 3) := by decide +kernel
theorem dX5_count_8 : decode cX5_count 8 = .ok (.ifCond .eq 7, 3) := by decide +kernel
theorem dX5_count_11 : decode cX5_count 11 = .ok (.iconst 0, 1) := by decide +kernel
theorem dX5_count_12 : decode cX5_count 12 = .ok (.goto 4, 3) := by decide +kernel
theorem dX5_count_15 : decode cX5_count 15 = .ok (.iconst 1, 1) := by decide +kernel
theorem dX5_count_16 : decode cX5_count 16 = .ok (.putfield 47, 3) := by decide +kernel
theorem dX5_count_19 : decode cX5_count 19 = .ok (.aload_n 0, 1) := by decide +kernel
theorem dX5_count_20 : decode cX5_count 20 = .ok (.getfield 47, 3) := by decide +kernel
theorem dX5_count_23 : decode cX5_count 23 = .ok (.ifCond .le 7, 3) := by decide +kernel
theorem dX5_count_26 : decode cX5_count 26 = .ok (.iconst 0, 1) := by decide +kernel
theorem dX5_count_27 : decode cX5_count 27 = .ok (.goto 8, 3) := by decide +kernel
theorem dX5_count_30 : decode cX5_count 30 = .ok (.aload_n 0, 1) := by decide +kernel
theorem dX5_count_31 : decode cX5_count 31 = .ok (.iload_n 1, 1) := by decide +kernel
theorem dX5_count_32 : decode cX5_count 32 = .ok (.invokevirtual 196, 3) := by decide +kernel
theorem dX5_count_35 : decode cX5_count 35 = .ok (.ireturn, 1) := by decide +kernel
theorem dX5_overtaken_0 : decode cX5_overtaken 0 = .ok (.iconst 0, 1) := by decide +kernel
theorem dX5_overtaken_1 : decode cX5_overtaken 1 = .ok (.istore_n 2, 1) := by decide +kernel
theorem dX5_overtaken_2 : decode cX5_overtaken 2 = .ok (.iconst 0, 1) := by decide +kernel
theorem dX5_overtaken_3 : decode cX5_overtaken 3 = .ok (.istore_n 3, 1) := by decide +kernel
theorem dX5_overtaken_4 : decode cX5_overtaken 4 = .ok (.iload_n 3, 1) := by decide +kernel
theorem dX5_overtaken_5 : decode cX5_overtaken 5 = .ok (.sipush 512, 3) := by decide +kernel
theorem dX5_overtaken_8 : decode cX5_overtaken 8 = .ok (.if_icmp .ge 36, 3) := by decide +kernel
theorem dX5_overtaken_11 : decode cX5_overtaken 11 = .ok (.iload_n 2, 1) := by decide +kernel
theorem dX5_overtaken_12 : decode cX5_overtaken 12 = .ok (.aload_n 0, 1) := by decide +kernel
theorem dX5_overtaken_13 : decode cX5_overtaken 13 = .ok (.getfield 43, 3) := by decide +kernel
theorem dX5_overtaken_16 : decode cX5_overtaken 16 = .ok (.iload_n 3, 1) := by decide +kernel
theorem dX5_overtaken_17 : decode cX5_overtaken 17 = .ok (.baload, 1) := by decide +kernel
theorem dX5_overtaken_18 : decode cX5_overtaken 18 = .ok (.ifCond .eq 17, 3) := by decide +kernel
theorem dX5_overtaken_21 : decode cX5_overtaken 21 = .ok (.aload_n 0, 1) := by decide +kernel
theorem dX5_overtaken_22 : decode cX5_overtaken 22 = .ok (.getfield 31, 3) := by decide +kernel
theorem dX5_overtaken_25 : decode cX5_overtaken 25 = .ok (.iload_n 3, 1) := by decide +kernel
theorem dX5_overtaken_26 : decode cX5_overtaken 26 = .ok (.iaload, 1) := by decide +kernel
theorem dX5_overtaken_27 : decode cX5_overtaken 27 = .ok (.iload_n 1, 1) := by decide +kernel
theorem dX5_overtaken_28 : decode cX5_overtaken 28 = .ok (.if_icmp .ne 7, 3) := by decide +kernel
theorem dX5_overtaken_31 : decode cX5_overtaken 31 = .ok (.iconst 1, 1) := by decide +kernel
theorem dX5_overtaken_32 : decode cX5_overtaken 32 = .ok (.goto 4, 3) := by decide +kernel
theorem dX5_overtaken_35 : decode cX5_overtaken 35 = .ok (.iconst 0, 1) := by decide +kernel
theorem dX5_overtaken_36 : decode cX5_overtaken 36 = .ok (.iadd, 1) := by decide +kernel
theorem dX5_overtaken_37 : decode cX5_overtaken 37 = .ok (.istore_n 2, 1) := by decide +kernel
theorem dX5_overtaken_38 : decode cX5_overtaken 38 = .ok (.iinc 3 1, 3) := by decide +kernel
theorem dX5_overtaken_41 : decode cX5_overtaken 41 = .ok (.goto (-37), 3) := by decide +kernel
theorem dX5_overtaken_44 : decode cX5_overtaken 44 = .ok (.iload_n 2, 1) := by decide +kernel
theorem dX5_overtaken_45 : decode cX5_overtaken 45 = .ok (.ireturn, 1) := by decide +kernel
set_option maxRecDepth 20000 in
theorem ggX5_wouldPut_X5_height : GoodIn wsX5_wouldPut wsX5_height := goodIn_r _ [8, 1, 69, 70, 71, 72, 73, 74, 75, 76, 77, 78, 79, 80, 81, 82, 83, 84, 85] (by decide +kernel) (by decide +kernel)
set_option maxRecDepth 20000 in
theorem gX5_wouldPut_X5_height : GoodIn wsX5_wouldPut (wsV RX5 66 RX5 yX5_height wsX5_height) := goodIn_app (goodIn_of _ (by decide +kernel)) ggX5_wouldPut_X5_height
set_option maxRecDepth 20000 in
theorem ggX5_wouldPut_X5_seenNow : GoodIn wsX5_wouldPut wsX5_seenNow := goodIn_r _ [12, 13, 14, 15, 7, 16, 3, 17, 1, 18, 4, 5, 6, 8, 19, 20, 21, 22, 23, 24, 25, 26, 27, 28, 29, 30, 31, 32, 33, 34, 35, 36, 37, 38, 69, 70, 71, 72, 73, 74, 75, 76, 77, 78, 79, 80, 81, 82, 83, 84, 85] (by decide +kernel) (by decide +kernel)
set_option maxRecDepth 20000 in
theorem gX5_wouldPut_X5_seenNow : GoodIn wsX5_wouldPut (wsV RX5 117 RX5 yX5_seenNow wsX5_seenNow) := goodIn_app (goodIn_of _ (by decide +kernel)) ggX5_wouldPut_X5_seenNow
set_option maxRecDepth 20000 in
theorem ggX5_wouldPut_X5_shaded : GoodIn wsX5_wouldPut wsX5_shaded := goodIn_r _ [42, 1, 43, 44, 45, 7, 46, 47, 48, 49, 50, 51, 52, 53, 54, 55, 56, 4, 5, 6, 8, 69, 70, 71, 72, 73, 74, 75, 76, 77, 78, 79, 80, 81, 82, 83, 84, 85] (by decide +kernel) (by decide +kernel)
set_option maxRecDepth 20000 in
theorem gX5_wouldPut_X5_shaded : GoodIn wsX5_wouldPut (wsV RX5 190 RX5 yX5_shaded wsX5_shaded) := goodIn_app (goodIn_of _ (by decide +kernel)) ggX5_wouldPut_X5_shaded
set_option maxRecDepth 20000 in
theorem ggX5_wouldPut_X5_putOn : GoodIn wsX5_wouldPut wsX5_putOn := goodIn_r _ [60, 1, 4, 5, 6, 7, 8, 69, 70, 71, 72, 73, 74, 75, 76, 77, 78, 79, 80, 81, 82, 83, 84, 85] (by decide +kernel) (by decide +kernel)
set_option maxRecDepth 20000 in
theorem gX5_wouldPut_X5_putOn : GoodIn wsX5_wouldPut (wsV RX5 101 RX5 yX5_putOn wsX5_putOn) := goodIn_app (goodIn_of _ (by decide +kernel)) ggX5_wouldPut_X5_putOn
set_option maxRecDepth 20000 in
theorem ggX5_wouldPut_X5_layPicture : GoodIn wsX5_wouldPut wsX5_layPicture := goodIn_r _ [16, 3, 17, 1, 18, 4, 5, 6, 7, 8, 19, 20, 21, 22, 23, 24, 25, 26, 27, 28, 29, 30, 69, 70, 71, 72, 73, 74, 75, 76, 77, 78, 79, 80, 81, 82, 83, 84, 85] (by decide +kernel) (by decide +kernel)
set_option maxRecDepth 20000 in
theorem gX5_wouldPut_X5_layPicture : GoodIn wsX5_wouldPut (wsV RX5 78 RX5 yX5_layPicture wsX5_layPicture) := goodIn_app (goodIn_of _ (by decide +kernel)) ggX5_wouldPut_X5_layPicture
set_option maxRecDepth 20000 in
theorem ggX5_wouldPut_X5_overtaken : GoodIn wsX5_wouldPut wsX5_overtaken := goodIn_r _ [64, 2, 3, 69, 70, 71, 72, 73, 74, 75, 76, 77, 78, 79, 80, 81, 82, 83, 84, 85] (by decide +kernel) (by decide +kernel)
set_option maxRecDepth 20000 in
theorem gX5_wouldPut_X5_overtaken : GoodIn wsX5_wouldPut (wsV RX5 199 RX5 yX5_overtaken wsX5_overtaken) := goodIn_app (goodIn_of _ (by decide +kernel)) ggX5_wouldPut_X5_overtaken
set_option maxRecDepth 20000 in
theorem ggX5_wouldPut_X5_takeFrom : GoodIn wsX5_wouldPut wsX5_takeFrom := goodIn_r _ [68, 1, 4, 5, 6, 7, 8, 69, 70, 71, 72, 73, 74, 75, 76, 77, 78, 79, 80, 81, 82, 83, 84, 85] (by decide +kernel) (by decide +kernel)
set_option maxRecDepth 20000 in
theorem gX5_wouldPut_X5_takeFrom : GoodIn wsX5_wouldPut (wsV RX5 104 RX5 yX5_takeFrom wsX5_takeFrom) := goodIn_app (goodIn_of _ (by decide +kernel)) ggX5_wouldPut_X5_takeFrom
theorem dX5_wouldPut_0 : decode cX5_wouldPut 0 = .ok (.aload_n 0, 1) := by decide +kernel
theorem dX5_wouldPut_1 : decode cX5_wouldPut 1 = .ok (.iload_n 1, 1) := by decide +kernel
theorem dX5_wouldPut_2 : decode cX5_wouldPut 2 = .ok (.iload_n 2, 1) := by decide +kernel
theorem dX5_wouldPut_3 : decode cX5_wouldPut 3 = .ok (.invokevirtual 66, 3) := by decide +kernel
theorem dX5_wouldPut_6 : decode cX5_wouldPut 6 = .ok (.istore 4, 2) := by decide +kernel
theorem dX5_wouldPut_8 : decode cX5_wouldPut 8 = .ok (.iload 4, 2) := by decide +kernel
theorem dX5_wouldPut_10 : decode cX5_wouldPut 10 = .ok (.bipush 8, 2) := by decide +kernel
theorem dX5_wouldPut_12 : decode cX5_wouldPut 12 = .ok (.if_icmp .ne 5, 3) := by decide +kernel
theorem dX5_wouldPut_15 : decode cX5_wouldPut 15 = .ok (.iconst (-1), 1) := by decide +kernel
theorem dX5_wouldPut_16 : decode cX5_wouldPut 16 = .ok (.ireturn, 1) := by decide +kernel
theorem dX5_wouldPut_17 : decode cX5_wouldPut 17 = .ok (.aload_n 0, 1) := by decide +kernel
theorem dX5_wouldPut_18 : decode cX5_wouldPut 18 = .ok (.invokevirtual 117, 3) := by decide +kernel
theorem dX5_wouldPut_21 : decode cX5_wouldPut 21 = .ok (.istore 5, 2) := by decide +kernel
theorem dX5_wouldPut_23 : decode cX5_wouldPut 23 = .ok (.aload_n 0, 1) := by decide +kernel
theorem dX5_wouldPut_24 : decode cX5_wouldPut 24 = .ok (.aload_n 0, 1) := by decide +kernel
theorem dX5_wouldPut_25 : decode cX5_wouldPut 25 = .ok (.getfield 7, 3) := by decide +kernel
theorem dX5_wouldPut_28 : decode cX5_wouldPut 28 = .ok (.iconst 1, 1) := by decide +kernel
theorem dX5_wouldPut_29 : decode cX5_wouldPut 29 = .ok (.iaload, 1) := by decide +kernel
theorem dX5_wouldPut_30 : decode cX5_wouldPut 30 = .ok (.invokevirtual 190, 3) := by decide +kernel
theorem dX5_wouldPut_33 : decode cX5_wouldPut 33 = .ok (.istore 6, 2) := by decide +kernel
theorem dX5_wouldPut_35 : decode cX5_wouldPut 35 = .ok (.iconst 0, 1) := by decide +kernel
theorem dX5_wouldPut_36 : decode cX5_wouldPut 36 = .ok (.istore 7, 2) := by decide +kernel
theorem dX5_wouldPut_38 : decode cX5_wouldPut 38 = .ok (.iload 7, 2) := by decide +kernel
theorem dX5_wouldPut_40 : decode cX5_wouldPut 40 = .ok (.sipush 512, 3) := by decide +kernel
theorem dX5_wouldPut_43 : decode cX5_wouldPut 43 = .ok (.if_icmp .ge 32, 3) := by decide +kernel
theorem dX5_wouldPut_46 : decode cX5_wouldPut 46 = .ok (.aload_n 0, 1) := by decide +kernel
theorem dX5_wouldPut_47 : decode cX5_wouldPut 47 = .ok (.getfield 43, 3) := by decide +kernel
theorem dX5_wouldPut_50 : decode cX5_wouldPut 50 = .ok (.iload 7, 2) := by decide +kernel
theorem dX5_wouldPut_52 : decode cX5_wouldPut 52 = .ok (.aload_n 0, 1) := by decide +kernel
theorem dX5_wouldPut_53 : decode cX5_wouldPut 53 = .ok (.getfield 31, 3) := by decide +kernel
theorem dX5_wouldPut_56 : decode cX5_wouldPut 56 = .ok (.iload 7, 2) := by decide +kernel
theorem dX5_wouldPut_58 : decode cX5_wouldPut 58 = .ok (.iaload, 1) := by decide +kernel
theorem dX5_wouldPut_59 : decode cX5_wouldPut 59 = .ok (.iconst (-1), 1) := by decide +kernel
theorem dX5_wouldPut_60 : decode cX5_wouldPut 60 = .ok (.if_icmp .eq 7, 3) := by decide +kernel
theorem dX5_wouldPut_63 : decode cX5_wouldPut 63 = .ok (.iconst 1, 1) := by decide +kernel
theorem dX5_wouldPut_64 : decode cX5_wouldPut 64 = .ok (.goto 4, 3) := by decide +kernel
theorem dX5_wouldPut_67 : decode cX5_wouldPut 67 = .ok (.iconst 0, 1) := by decide +kernel
theorem dX5_wouldPut_68 : decode cX5_wouldPut 68 = .ok (.bastore, 1) := by decide +kernel
theorem dX5_wouldPut_69 : decode cX5_wouldPut 69 = .ok (.iinc 7 1, 3) := by decide +kernel
theorem dX5_wouldPut_72 : decode cX5_wouldPut 72 = .ok (.goto (-34), 3) := by decide +kernel
theorem dX5_wouldPut_75 : decode cX5_wouldPut 75 = .ok (.aload_n 0, 1) := by decide +kernel
theorem dX5_wouldPut_76 : decode cX5_wouldPut 76 = .ok (.iload_n 1, 1) := by decide +kernel
theorem dX5_wouldPut_77 : decode cX5_wouldPut 77 = .ok (.iload_n 2, 1) := by decide +kernel
theorem dX5_wouldPut_78 : decode cX5_wouldPut 78 = .ok (.iconst 0, 1) := by decide +kernel
theorem dX5_wouldPut_79 : decode cX5_wouldPut 79 = .ok (.invokevirtual 101, 3) := by decide +kernel
theorem dX5_wouldPut_82 : decode cX5_wouldPut 82 = .ok (.iload_n 3, 1) := by decide +kernel
theorem dX5_wouldPut_83 : decode cX5_wouldPut 83 = .ok (.ifCond .ne 16, 3) := by decide +kernel
theorem dX5_wouldPut_86 : decode cX5_wouldPut 86 = .ok (.aload_n 0, 1) := by decide +kernel
theorem dX5_wouldPut_87 : decode cX5_wouldPut 87 = .ok (.invokevirtual 117, 3) := by decide +kernel
theorem dX5_wouldPut_90 : decode cX5_wouldPut 90 = .ok (.iload 5, 2) := by decide +kernel
theorem dX5_wouldPut_92 : decode cX5_wouldPut 92 = .ok (.isub, 1) := by decide +kernel
theorem dX5_wouldPut_93 : decode cX5_wouldPut 93 = .ok (.bipush 100, 2) := by decide +kernel
theorem dX5_wouldPut_95 : decode cX5_wouldPut 95 = .ok (.iadd, 1) := by decide +kernel
theorem dX5_wouldPut_96 : decode cX5_wouldPut 96 = .ok (.goto 19, 3) := by decide +kernel
theorem dX5_wouldPut_99 : decode cX5_wouldPut 99 = .ok (.aload_n 0, 1) := by decide +kernel
theorem dX5_wouldPut_100 : decode cX5_wouldPut 100 = .ok (.aload_n 0, 1) := by decide +kernel
theorem dX5_wouldPut_101 : decode cX5_wouldPut 101 = .ok (.getfield 7, 3) := by decide +kernel
theorem dX5_wouldPut_104 : decode cX5_wouldPut 104 = .ok (.iconst 1, 1) := by decide +kernel
theorem dX5_wouldPut_105 : decode cX5_wouldPut 105 = .ok (.iaload, 1) := by decide +kernel
theorem dX5_wouldPut_106 : decode cX5_wouldPut 106 = .ok (.invokevirtual 190, 3) := by decide +kernel
theorem dX5_wouldPut_109 : decode cX5_wouldPut 109 = .ok (.iload 6, 2) := by decide +kernel
theorem dX5_wouldPut_111 : decode cX5_wouldPut 111 = .ok (.isub, 1) := by decide +kernel
theorem dX5_wouldPut_112 : decode cX5_wouldPut 112 = .ok (.bipush 100, 2) := by decide +kernel
theorem dX5_wouldPut_114 : decode cX5_wouldPut 114 = .ok (.iadd, 1) := by decide +kernel
theorem dX5_wouldPut_115 : decode cX5_wouldPut 115 = .ok (.istore 7, 2) := by decide +kernel
theorem dX5_wouldPut_117 : decode cX5_wouldPut 117 = .ok (.iload_n 3, 1) := by decide +kernel
theorem dX5_wouldPut_118 : decode cX5_wouldPut 118 = .ok (.iconst 1, 1) := by decide +kernel
theorem dX5_wouldPut_119 : decode cX5_wouldPut 119 = .ok (.if_icmp .ne 25, 3) := by decide +kernel
theorem dX5_wouldPut_122 : decode cX5_wouldPut 122 = .ok (.aload_n 0, 1) := by decide +kernel
theorem dX5_wouldPut_123 : decode cX5_wouldPut 123 = .ok (.invokevirtual 78, 3) := by decide +kernel
theorem dX5_wouldPut_126 : decode cX5_wouldPut 126 = .ok (.aload_n 0, 1) := by decide +kernel
theorem dX5_wouldPut_127 : decode cX5_wouldPut 127 = .ok (.bipush 8, 2) := by decide +kernel
theorem dX5_wouldPut_129 : decode cX5_wouldPut 129 = .ok (.bipush 6, 2) := by decide +kernel
theorem dX5_wouldPut_131 : decode cX5_wouldPut 131 = .ok (.iload_n 2, 1) := by decide +kernel
theorem dX5_wouldPut_132 : decode cX5_wouldPut 132 = .ok (.imul, 1) := by decide +kernel
theorem dX5_wouldPut_133 : decode cX5_wouldPut 133 = .ok (.iload_n 1, 1) := by decide +kernel
theorem dX5_wouldPut_134 : decode cX5_wouldPut 134 = .ok (.iadd, 1) := by decide +kernel
theorem dX5_wouldPut_135 : decode cX5_wouldPut 135 = .ok (.imul, 1) := by decide +kernel
theorem dX5_wouldPut_136 : decode cX5_wouldPut 136 = .ok (.iload 4, 2) := by decide +kernel
theorem dX5_wouldPut_138 : decode cX5_wouldPut 138 = .ok (.iadd, 1) := by decide +kernel
theorem dX5_wouldPut_139 : decode cX5_wouldPut 139 = .ok (.invokevirtual 199, 3) := by decide +kernel
theorem dX5_wouldPut_142 : decode cX5_wouldPut 142 = .ok (.istore 7, 2) := by decide +kernel
theorem dX5_wouldPut_144 : decode cX5_wouldPut 144 = .ok (.aload_n 0, 1) := by decide +kernel
theorem dX5_wouldPut_145 : decode cX5_wouldPut 145 = .ok (.iload_n 1, 1) := by decide +kernel
theorem dX5_wouldPut_146 : decode cX5_wouldPut 146 = .ok (.iload_n 2, 1) := by decide +kernel
theorem dX5_wouldPut_147 : decode cX5_wouldPut 147 = .ok (.invokevirtual 104, 3) := by decide +kernel
theorem dX5_wouldPut_150 : decode cX5_wouldPut 150 = .ok (.pop, 1) := by decide +kernel
theorem dX5_wouldPut_151 : decode cX5_wouldPut 151 = .ok (.iload 7, 2) := by decide +kernel
theorem dX5_wouldPut_153 : decode cX5_wouldPut 153 = .ok (.ireturn, 1) := by decide +kernel
set_option maxRecDepth 20000 in
theorem ggX5_ifPut_X5_isSquare : GoodIn wsX5_ifPut wsX5_isSquare := goodIn_r _ [6, 7, 8, 9, 5, 10, 74, 75, 76, 77, 78, 79, 80, 81, 82, 83, 84, 85, 86, 87, 88, 89, 90] (by decide +kernel) (by decide +kernel)
set_option maxRecDepth 20000 in
theorem gX5_ifPut_X5_isSquare : GoodIn wsX5_ifPut (wsV RX5 85 RX5 yX5_isSquare wsX5_isSquare) := goodIn_app (goodIn_of _ (by decide +kernel)) ggX5_ifPut_X5_isSquare
set_option maxRecDepth 20000 in
theorem ggX5_ifPut_X5_in : GoodIn wsX5_ifPut wsX5_in := goodIn_r _ [10] (by decide +kernel) (by decide +kernel)
set_option maxRecDepth 20000 in
theorem gX5_ifPut_X5_in : GoodIn wsX5_ifPut (va_wsS RX5 51 yX5_in wsX5_in) := goodIn_app (goodIn_of _ (by decide +kernel)) ggX5_ifPut_X5_in
set_option maxRecDepth 20000 in
theorem ggX5_ifPut_X5_wouldPut : GoodIn wsX5_ifPut wsX5_wouldPut := goodIn_r _ [14, 7, 15, 16, 17, 18, 19, 5, 20, 21, 22, 23, 24, 25, 26, 27, 28, 29, 30, 31, 32, 33, 34, 35, 36, 37, 38, 39, 40, 41, 42, 43, 44, 45, 46, 47, 48, 49, 50, 51, 52, 53, 54, 55, 56, 57, 58, 59, 60, 61, 2, 3, 4, 6, 8, 9, 10, 62, 63, 64, 65, 66, 67, 68, 69, 70, 71, 72, 73, 74, 75, 76, 77, 78, 79, 80, 81, 82, 83, 84, 85, 86, 87, 88, 89, 90] (by decide +kernel) (by decide +kernel)
set_option maxRecDepth 20000 in
theorem gX5_ifPut_X5_wouldPut : GoodIn wsX5_ifPut (wsV RX5 202 RX5 yX5_wouldPut wsX5_wouldPut) := goodIn_app (goodIn_of _ (by decide +kernel)) ggX5_ifPut_X5_wouldPut
theorem dX5_ifPut_0 : decode cX5_ifPut 0 = .ok (.aload_n 0, 1) := by decide +kernel
theorem dX5_ifPut_1 : decode cX5_ifPut 1 = .ok (.aload_n 0, 1) := by decide +kernel
theorem dX5_ifPut_2 : decode cX5_ifPut 2 = .ok (.iload_n 1, 1) := by decide +kernel
theorem dX5_ifPut_3 : decode cX5_ifPut 3 = .ok (.iload_n 2, 1) := by decide +kernel
theorem dX5_ifPut_4 : decode cX5_ifPut 4 = .ok (.invokevirtual 85, 3) := by decide +kernel
theorem dX5_ifPut_7 : decode cX5_ifPut 7 = .ok (.ifCond .ne 7, 3) := by decide +kernel
theorem dX5_ifPut_10 : decode cX5_ifPut 10 = .ok (.iconst 1, 1) := by decide +kernel
theorem dX5_ifPut_11 : decode cX5_ifPut 11 = .ok (.goto 17, 3) := by decide +kernel
theorem dX5_ifPut_14 : decode cX5_ifPut 14 = .ok (.iload_n 3, 1) := by decide +kernel
theorem dX5_ifPut_15 : decode cX5_ifPut 15 = .ok (.iconst 0, 1) := by decide +kernel
theorem dX5_ifPut_16 : decode cX5_ifPut 16 = .ok (.iconst 2, 1) := by decide +kernel
theorem dX5_ifPut_17 : decode cX5_ifPut 17 = .ok (.invokestatic 51, 3) := by decide +kernel
theorem dX5_ifPut_20 : decode cX5_ifPut 20 = .ok (.ifCond .eq 7, 3) := by decide +kernel
theorem dX5_ifPut_23 : decode cX5_ifPut 23 = .ok (.iconst 0, 1) := by decide +kernel
theorem dX5_ifPut_24 : decode cX5_ifPut 24 = .ok (.goto 4, 3) := by decide +kernel
theorem dX5_ifPut_27 : decode cX5_ifPut 27 = .ok (.iconst 2, 1) := by decide +kernel
theorem dX5_ifPut_28 : decode cX5_ifPut 28 = .ok (.putfield 47, 3) := by decide +kernel
theorem dX5_ifPut_31 : decode cX5_ifPut 31 = .ok (.aload_n 0, 1) := by decide +kernel
theorem dX5_ifPut_32 : decode cX5_ifPut 32 = .ok (.getfield 47, 3) := by decide +kernel
theorem dX5_ifPut_35 : decode cX5_ifPut 35 = .ok (.ifCond .le 7, 3) := by decide +kernel
theorem dX5_ifPut_38 : decode cX5_ifPut 38 = .ok (.iconst 0, 1) := by decide +kernel
theorem dX5_ifPut_39 : decode cX5_ifPut 39 = .ok (.goto 10, 3) := by decide +kernel
theorem dX5_ifPut_42 : decode cX5_ifPut 42 = .ok (.aload_n 0, 1) := by decide +kernel
theorem dX5_ifPut_43 : decode cX5_ifPut 43 = .ok (.iload_n 1, 1) := by decide +kernel
theorem dX5_ifPut_44 : decode cX5_ifPut 44 = .ok (.iload_n 2, 1) := by decide +kernel
theorem dX5_ifPut_45 : decode cX5_ifPut 45 = .ok (.iload_n 3, 1) := by decide +kernel
theorem dX5_ifPut_46 : decode cX5_ifPut 46 = .ok (.invokevirtual 202, 3) := by decide +kernel
theorem dX5_ifPut_49 : decode cX5_ifPut 49 = .ok (.ireturn, 1) := by decide +kernel
set_option maxRecDepth 20000 in
theorem ggX5_ifHour_X5_in : GoodIn wsX5_ifHour wsX5_in := goodIn_r _ [5] (by decide +kernel) (by decide +kernel)
set_option maxRecDepth 20000 in
theorem gX5_ifHour_X5_in : GoodIn wsX5_ifHour (va_wsS RX5 51 yX5_in wsX5_in) := goodIn_app (goodIn_of _ (by decide +kernel)) ggX5_ifHour_X5_in
set_option maxRecDepth 20000 in
theorem ggX5_ifHour_X5_shaded : GoodIn wsX5_ifHour wsX5_shaded := goodIn_r _ [9, 10, 11, 12, 13, 4, 14, 15, 16, 17, 18, 19, 20, 21, 2, 3, 5, 22, 23, 24, 25, 26, 27, 28, 29, 30, 31, 32, 33, 34, 35, 36, 37, 38, 39, 40, 41, 42] (by decide +kernel) (by decide +kernel)
set_option maxRecDepth 20000 in
theorem gX5_ifHour_X5_shaded : GoodIn wsX5_ifHour (wsV RX5 190 RX5 yX5_shaded wsX5_shaded) := goodIn_app (goodIn_of _ (by decide +kernel)) ggX5_ifHour_X5_shaded
theorem dX5_ifHour_0 : decode cX5_ifHour 0 = .ok (.aload_n 0, 1) := by decide +kernel
theorem dX5_ifHour_1 : decode cX5_ifHour 1 = .ok (.iload_n 1, 1) := by decide +kernel
theorem dX5_ifHour_2 : decode cX5_ifHour 2 = .ok (.iconst 0, 1) := by decide +kernel
theorem dX5_ifHour_3 : decode cX5_ifHour 3 = .ok (.bipush 7, 2) := by decide +kernel
theorem dX5_ifHour_5 : decode cX5_ifHour 5 = .ok (.invokestatic 51, 3) := by decide +kernel
theorem dX5_ifHour_8 : decode cX5_ifHour 8 = .ok (.ifCond .eq 7, 3) := by decide +kernel
theorem dX5_ifHour_11 : decode cX5_ifHour 11 = .ok (.iconst 0, 1) := by decide +kernel
theorem dX5_ifHour_12 : decode cX5_ifHour 12 = .ok (.goto 4, 3) := by decide +kernel
theorem dX5_ifHour_15 : decode cX5_ifHour 15 = .ok (.iconst 1, 1) := by decide +kernel
theorem dX5_ifHour_16 : decode cX5_ifHour 16 = .ok (.putfield 47, 3) := by decide +kernel
theorem dX5_ifHour_19 : decode cX5_ifHour 19 = .ok (.aload_n 0, 1) := by decide +kernel
theorem dX5_ifHour_20 : decode cX5_ifHour 20 = .ok (.getfield 47, 3) := by decide +kernel
theorem dX5_ifHour_23 : decode cX5_ifHour 23 = .ok (.ifCond .le 7, 3) := by decide +kernel
theorem dX5_ifHour_26 : decode cX5_ifHour 26 = .ok (.iconst 0, 1) := by decide +kernel
theorem dX5_ifHour_27 : decode cX5_ifHour 27 = .ok (.goto 8, 3) := by decide +kernel
theorem dX5_ifHour_30 : decode cX5_ifHour 30 = .ok (.aload_n 0, 1) := by decide +kernel
theorem dX5_ifHour_31 : decode cX5_ifHour 31 = .ok (.iload_n 1, 1) := by decide +kernel
theorem dX5_ifHour_32 : decode cX5_ifHour 32 = .ok (.invokevirtual 190, 3) := by decide +kernel
theorem dX5_ifHour_35 : decode cX5_ifHour 35 = .ok (.ireturn, 1) := by decide +kernel
set_option maxRecDepth 20000 in
theorem ggX5_brightestNow_X5_shaded : GoodIn wsX5_brightestNow wsX5_shaded := goodIn_r _ [5, 6, 7, 8, 9, 4, 10, 11, 12, 13, 14, 15, 16, 17, 18, 19, 20, 21, 22, 23, 24, 25, 26, 27, 28, 29, 30, 31, 32, 33, 34, 35, 36, 37, 38, 39, 40, 41] (by decide +kernel) (by decide +kernel)
set_option maxRecDepth 20000 in
theorem gX5_brightestNow_X5_shaded : GoodIn wsX5_brightestNow (wsV RX5 190 RX5 yX5_shaded wsX5_shaded) := goodIn_app (goodIn_of _ (by decide +kernel)) ggX5_brightestNow_X5_shaded
theorem dX5_brightestNow_0 : decode cX5_brightestNow 0 = .ok (.iconst 0, 1) := by decide +kernel
theorem dX5_brightestNow_1 : decode cX5_brightestNow 1 = .ok (.istore_n 1, 1) := by decide +kernel
theorem dX5_brightestNow_2 : decode cX5_brightestNow 2 = .ok (.iconst 1, 1) := by decide +kernel
theorem dX5_brightestNow_3 : decode cX5_brightestNow 3 = .ok (.istore_n 2, 1) := by decide +kernel
theorem dX5_brightestNow_4 : decode cX5_brightestNow 4 = .ok (.iload_n 2, 1) := by decide +kernel
theorem dX5_brightestNow_5 : decode cX5_brightestNow 5 = .ok (.bipush 8, 2) := by decide +kernel
theorem dX5_brightestNow_7 : decode cX5_brightestNow 7 = .ok (.if_icmp .ge 28, 3) := by decide +kernel
theorem dX5_brightestNow_10 : decode cX5_brightestNow 10 = .ok (.aload_n 0, 1) := by decide +kernel
theorem dX5_brightestNow_11 : decode cX5_brightestNow 11 = .ok (.iload_n 2, 1) := by decide +kernel
theorem dX5_brightestNow_12 : decode cX5_brightestNow 12 = .ok (.invokevirtual 190, 3) := by decide +kernel
theorem dX5_brightestNow_15 : decode cX5_brightestNow 15 = .ok (.aload_n 0, 1) := by decide +kernel
theorem dX5_brightestNow_16 : decode cX5_brightestNow 16 = .ok (.iload_n 1, 1) := by decide +kernel
theorem dX5_brightestNow_17 : decode cX5_brightestNow 17 = .ok (.invokevirtual 190, 3) := by decide +kernel
theorem dX5_brightestNow_20 : decode cX5_brightestNow 20 = .ok (.if_icmp .ge 7, 3) := by decide +kernel
theorem dX5_brightestNow_23 : decode cX5_brightestNow 23 = .ok (.iload_n 2, 1) := by decide +kernel
theorem dX5_brightestNow_24 : decode cX5_brightestNow 24 = .ok (.goto 4, 3) := by decide +kernel
theorem dX5_brightestNow_27 : decode cX5_brightestNow 27 = .ok (.iload_n 1, 1) := by decide +kernel
theorem dX5_brightestNow_28 : decode cX5_brightestNow 28 = .ok (.istore_n 1, 1) := by decide +kernel
theorem dX5_brightestNow_29 : decode cX5_brightestNow 29 = .ok (.iinc 2 1, 3) := by decide +kernel
theorem dX5_brightestNow_32 : decode cX5_brightestNow 32 = .ok (.goto (-28), 3) := by decide +kernel
theorem dX5_brightestNow_35 : decode cX5_brightestNow 35 = .ok (.iload_n 1, 1) := by decide +kernel
theorem dX5_brightestNow_36 : decode cX5_brightestNow 36 = .ok (.ireturn, 1) := by decide +kernel
set_option maxRecDepth 20000 in
theorem ggX5_brightest_X5_brightestNow : GoodIn wsX5_brightest wsX5_brightestNow := goodIn_r _ [6, 7, 8, 9, 5, 10, 11, 12, 13, 14, 15, 16, 17, 18, 19, 20, 21, 22, 23, 24, 25, 26, 27, 28, 29, 30, 31, 32, 33, 34, 35, 36, 37, 38, 39, 40, 41, 42, 43, 44, 45, 46] (by decide +kernel) (by decide +kernel)
set_option maxRecDepth 20000 in
theorem gX5_brightest_X5_brightestNow : GoodIn wsX5_brightest (wsV RX5 205 RX5 yX5_brightestNow wsX5_brightestNow) := goodIn_app (goodIn_of _ (by decide +kernel)) ggX5_brightest_X5_brightestNow
theorem dX5_brightest_0 : decode cX5_brightest 0 = .ok (.aload_n 0, 1) := by decide +kernel
theorem dX5_brightest_1 : decode cX5_brightest 1 = .ok (.iconst 0, 1) := by decide +kernel
theorem dX5_brightest_2 : decode cX5_brightest 2 = .ok (.putfield 47, 3) := by decide +kernel
theorem dX5_brightest_5 : decode cX5_brightest 5 = .ok (.aload_n 0, 1) := by decide +kernel
theorem dX5_brightest_6 : decode cX5_brightest 6 = .ok (.invokevirtual 205, 3) := by decide +kernel
theorem dX5_brightest_9 : decode cX5_brightest 9 = .ok (.ireturn, 1) := by decide +kernel
set_option maxRecDepth 20000 in
theorem ggX5_mostAlike_X5_tallest : GoodIn wsX5_mostAlike wsX5_tallest := goodIn_r _ [6, 1, 7, 8, 9, 5, 10, 11, 12, 13, 14, 15, 16, 17, 18, 19, 20, 21, 22, 23, 24, 25, 26, 27, 28, 29, 30, 31] (by decide +kernel) (by decide +kernel)
set_option maxRecDepth 20000 in
theorem gX5_mostAlike_X5_tallest : GoodIn wsX5_mostAlike (wsV RX5 172 RX5 yX5_tallest wsX5_tallest) := goodIn_app (goodIn_of _ (by decide +kernel)) ggX5_mostAlike_X5_tallest
theorem dX5_mostAlike_0 : decode cX5_mostAlike 0 = .ok (.iconst 0, 1) := by decide +kernel
theorem dX5_mostAlike_1 : decode cX5_mostAlike 1 = .ok (.istore_n 1, 1) := by decide +kernel
theorem dX5_mostAlike_2 : decode cX5_mostAlike 2 = .ok (.iconst 0, 1) := by decide +kernel
theorem dX5_mostAlike_3 : decode cX5_mostAlike 3 = .ok (.istore_n 2, 1) := by decide +kernel
theorem dX5_mostAlike_4 : decode cX5_mostAlike 4 = .ok (.iload_n 2, 1) := by decide +kernel
theorem dX5_mostAlike_5 : decode cX5_mostAlike 5 = .ok (.aload_n 0, 1) := by decide +kernel
theorem dX5_mostAlike_6 : decode cX5_mostAlike 6 = .ok (.getfield 7, 3) := by decide +kernel
theorem dX5_mostAlike_9 : decode cX5_mostAlike 9 = .ok (.iconst 0, 1) := by decide +kernel
theorem dX5_mostAlike_10 : decode cX5_mostAlike 10 = .ok (.iaload, 1) := by decide +kernel
theorem dX5_mostAlike_11 : decode cX5_mostAlike 11 = .ok (.aload_n 0, 1) := by decide +kernel
theorem dX5_mostAlike_12 : decode cX5_mostAlike 12 = .ok (.getfield 7, 3) := by decide +kernel
theorem dX5_mostAlike_15 : decode cX5_mostAlike 15 = .ok (.iconst 0, 1) := by decide +kernel
theorem dX5_mostAlike_16 : decode cX5_mostAlike 16 = .ok (.iaload, 1) := by decide +kernel
theorem dX5_mostAlike_17 : decode cX5_mostAlike 17 = .ok (.imul, 1) := by decide +kernel
theorem dX5_mostAlike_18 : decode cX5_mostAlike 18 = .ok (.if_icmp .ge 53, 3) := by decide +kernel
theorem dX5_mostAlike_21 : decode cX5_mostAlike 21 = .ok (.aload_n 0, 1) := by decide +kernel
theorem dX5_mostAlike_22 : decode cX5_mostAlike 22 = .ok (.iconst 0, 1) := by decide +kernel
theorem dX5_mostAlike_23 : decode cX5_mostAlike 23 = .ok (.iload_n 2, 1) := by decide +kernel
theorem dX5_mostAlike_24 : decode cX5_mostAlike 24 = .ok (.aload_n 0, 1) := by decide +kernel
theorem dX5_mostAlike_25 : decode cX5_mostAlike 25 = .ok (.getfield 7, 3) := by decide +kernel
theorem dX5_mostAlike_28 : decode cX5_mostAlike 28 = .ok (.iconst 0, 1) := by decide +kernel
theorem dX5_mostAlike_29 : decode cX5_mostAlike 29 = .ok (.iaload, 1) := by decide +kernel
theorem dX5_mostAlike_30 : decode cX5_mostAlike 30 = .ok (.idiv, 1) := by decide +kernel
theorem dX5_mostAlike_31 : decode cX5_mostAlike 31 = .ok (.invokevirtual 172, 3) := by decide +kernel
theorem dX5_mostAlike_34 : decode cX5_mostAlike 34 = .ok (.istore_n 3, 1) := by decide +kernel
theorem dX5_mostAlike_35 : decode cX5_mostAlike 35 = .ok (.aload_n 0, 1) := by decide +kernel
theorem dX5_mostAlike_36 : decode cX5_mostAlike 36 = .ok (.iconst 1, 1) := by decide +kernel
theorem dX5_mostAlike_37 : decode cX5_mostAlike 37 = .ok (.iload_n 2, 1) := by decide +kernel
theorem dX5_mostAlike_38 : decode cX5_mostAlike 38 = .ok (.aload_n 0, 1) := by decide +kernel
theorem dX5_mostAlike_39 : decode cX5_mostAlike 39 = .ok (.getfield 7, 3) := by decide +kernel
theorem dX5_mostAlike_42 : decode cX5_mostAlike 42 = .ok (.iconst 0, 1) := by decide +kernel
theorem dX5_mostAlike_43 : decode cX5_mostAlike 43 = .ok (.iaload, 1) := by decide +kernel
theorem dX5_mostAlike_44 : decode cX5_mostAlike 44 = .ok (.irem, 1) := by decide +kernel
theorem dX5_mostAlike_45 : decode cX5_mostAlike 45 = .ok (.invokevirtual 172, 3) := by decide +kernel
theorem dX5_mostAlike_48 : decode cX5_mostAlike 48 = .ok (.istore 4, 2) := by decide +kernel
theorem dX5_mostAlike_50 : decode cX5_mostAlike 50 = .ok (.iload_n 1, 1) := by decide +kernel
theorem dX5_mostAlike_51 : decode cX5_mostAlike 51 = .ok (.iload_n 3, 1) := by decide +kernel
theorem dX5_mostAlike_52 : decode cX5_mostAlike 52 = .ok (.iload 4, 2) := by decide +kernel
theorem dX5_mostAlike_54 : decode cX5_mostAlike 54 = .ok (.if_icmp .ge 7, 3) := by decide +kernel
theorem dX5_mostAlike_57 : decode cX5_mostAlike 57 = .ok (.iload_n 3, 1) := by decide +kernel
theorem dX5_mostAlike_58 : decode cX5_mostAlike 58 = .ok (.goto 5, 3) := by decide +kernel
theorem dX5_mostAlike_61 : decode cX5_mostAlike 61 = .ok (.iload 4, 2) := by decide +kernel
theorem dX5_mostAlike_63 : decode cX5_mostAlike 63 = .ok (.iadd, 1) := by decide +kernel
theorem dX5_mostAlike_64 : decode cX5_mostAlike 64 = .ok (.istore_n 1, 1) := by decide +kernel
theorem dX5_mostAlike_65 : decode cX5_mostAlike 65 = .ok (.iinc 2 1, 3) := by decide +kernel
theorem dX5_mostAlike_68 : decode cX5_mostAlike 68 = .ok (.goto (-64), 3) := by decide +kernel
theorem dX5_mostAlike_71 : decode cX5_mostAlike 71 = .ok (.iload_n 1, 1) := by decide +kernel
theorem dX5_mostAlike_72 : decode cX5_mostAlike 72 = .ok (.ireturn, 1) := by decide +kernel
set_option maxRecDepth 20000 in
theorem ggX5_fewestAlike_X5_tallest : GoodIn wsX5_fewestAlike wsX5_tallest := goodIn_r _ [6, 1, 7, 8, 9, 5, 10, 11, 12, 13, 14, 15, 16, 17, 18, 19, 20, 21, 22, 23, 24, 25, 26, 27, 28, 29, 30, 31] (by decide +kernel) (by decide +kernel)
set_option maxRecDepth 20000 in
theorem gX5_fewestAlike_X5_tallest : GoodIn wsX5_fewestAlike (wsV RX5 172 RX5 yX5_tallest wsX5_tallest) := goodIn_app (goodIn_of _ (by decide +kernel)) ggX5_fewestAlike_X5_tallest
theorem dX5_fewestAlike_0 : decode cX5_fewestAlike 0 = .ok (.iconst 0, 1) := by decide +kernel
theorem dX5_fewestAlike_1 : decode cX5_fewestAlike 1 = .ok (.istore_n 1, 1) := by decide +kernel
theorem dX5_fewestAlike_2 : decode cX5_fewestAlike 2 = .ok (.iconst 1, 1) := by decide +kernel
theorem dX5_fewestAlike_3 : decode cX5_fewestAlike 3 = .ok (.istore_n 2, 1) := by decide +kernel
theorem dX5_fewestAlike_4 : decode cX5_fewestAlike 4 = .ok (.iload_n 2, 1) := by decide +kernel
theorem dX5_fewestAlike_5 : decode cX5_fewestAlike 5 = .ok (.bipush 8, 2) := by decide +kernel
theorem dX5_fewestAlike_7 : decode cX5_fewestAlike 7 = .ok (.if_icmp .gt 91, 3) := by decide +kernel
theorem dX5_fewestAlike_10 : decode cX5_fewestAlike 10 = .ok (.iconst 0, 1) := by decide +kernel
theorem dX5_fewestAlike_11 : decode cX5_fewestAlike 11 = .ok (.istore_n 3, 1) := by decide +kernel
theorem dX5_fewestAlike_12 : decode cX5_fewestAlike 12 = .ok (.iconst 0, 1) := by decide +kernel
theorem dX5_fewestAlike_13 : decode cX5_fewestAlike 13 = .ok (.istore 4, 2) := by decide +kernel
theorem dX5_fewestAlike_15 : decode cX5_fewestAlike 15 = .ok (.iconst 0, 1) := by decide +kernel
theorem dX5_fewestAlike_16 : decode cX5_fewestAlike 16 = .ok (.istore 5, 2) := by decide +kernel
theorem dX5_fewestAlike_18 : decode cX5_fewestAlike 18 = .ok (.iload 5, 2) := by decide +kernel
theorem dX5_fewestAlike_20 : decode cX5_fewestAlike 20 = .ok (.aload_n 0, 1) := by decide +kernel
theorem dX5_fewestAlike_21 : decode cX5_fewestAlike 21 = .ok (.getfield 7, 3) := by decide +kernel
theorem dX5_fewestAlike_24 : decode cX5_fewestAlike 24 = .ok (.iconst 0, 1) := by decide +kernel
theorem dX5_fewestAlike_25 : decode cX5_fewestAlike 25 = .ok (.iaload, 1) := by decide +kernel
theorem dX5_fewestAlike_26 : decode cX5_fewestAlike 26 = .ok (.if_icmp .ge 49, 3) := by decide +kernel
theorem dX5_fewestAlike_29 : decode cX5_fewestAlike 29 = .ok (.iload_n 3, 1) := by decide +kernel
theorem dX5_fewestAlike_30 : decode cX5_fewestAlike 30 = .ok (.aload_n 0, 1) := by decide +kernel
theorem dX5_fewestAlike_31 : decode cX5_fewestAlike 31 = .ok (.iconst 0, 1) := by decide +kernel
theorem dX5_fewestAlike_32 : decode cX5_fewestAlike 32 = .ok (.iload 5, 2) := by decide +kernel
theorem dX5_fewestAlike_34 : decode cX5_fewestAlike 34 = .ok (.invokevirtual 172, 3) := by decide +kernel
theorem dX5_fewestAlike_37 : decode cX5_fewestAlike 37 = .ok (.iload_n 2, 1) := by decide +kernel
theorem dX5_fewestAlike_38 : decode cX5_fewestAlike 38 = .ok (.if_icmp .ne 7, 3) := by decide +kernel
theorem dX5_fewestAlike_41 : decode cX5_fewestAlike 41 = .ok (.iconst 1, 1) := by decide +kernel
theorem dX5_fewestAlike_42 : decode cX5_fewestAlike 42 = .ok (.goto 4, 3) := by decide +kernel
theorem dX5_fewestAlike_45 : decode cX5_fewestAlike 45 = .ok (.iconst 0, 1) := by decide +kernel
theorem dX5_fewestAlike_46 : decode cX5_fewestAlike 46 = .ok (.iadd, 1) := by decide +kernel
theorem dX5_fewestAlike_47 : decode cX5_fewestAlike 47 = .ok (.istore_n 3, 1) := by decide +kernel
theorem dX5_fewestAlike_48 : decode cX5_fewestAlike 48 = .ok (.iload 4, 2) := by decide +kernel
theorem dX5_fewestAlike_50 : decode cX5_fewestAlike 50 = .ok (.aload_n 0, 1) := by decide +kernel
theorem dX5_fewestAlike_51 : decode cX5_fewestAlike 51 = .ok (.iconst 1, 1) := by decide +kernel
theorem dX5_fewestAlike_52 : decode cX5_fewestAlike 52 = .ok (.iload 5, 2) := by decide +kernel
theorem dX5_fewestAlike_54 : decode cX5_fewestAlike 54 = .ok (.invokevirtual 172, 3) := by decide +kernel
theorem dX5_fewestAlike_57 : decode cX5_fewestAlike 57 = .ok (.iload_n 2, 1) := by decide +kernel
theorem dX5_fewestAlike_58 : decode cX5_fewestAlike 58 = .ok (.if_icmp .ne 7, 3) := by decide +kernel
theorem dX5_fewestAlike_61 : decode cX5_fewestAlike 61 = .ok (.iconst 1, 1) := by decide +kernel
theorem dX5_fewestAlike_62 : decode cX5_fewestAlike 62 = .ok (.goto 4, 3) := by decide +kernel
theorem dX5_fewestAlike_65 : decode cX5_fewestAlike 65 = .ok (.iconst 0, 1) := by decide +kernel
theorem dX5_fewestAlike_66 : decode cX5_fewestAlike 66 = .ok (.iadd, 1) := by decide +kernel
theorem dX5_fewestAlike_67 : decode cX5_fewestAlike 67 = .ok (.istore 4, 2) := by decide +kernel
theorem dX5_fewestAlike_69 : decode cX5_fewestAlike 69 = .ok (.iinc 5 1, 3) := by decide +kernel
theorem dX5_fewestAlike_72 : decode cX5_fewestAlike 72 = .ok (.goto (-54), 3) := by decide +kernel
theorem dX5_fewestAlike_75 : decode cX5_fewestAlike 75 = .ok (.iload_n 1, 1) := by decide +kernel
theorem dX5_fewestAlike_76 : decode cX5_fewestAlike 76 = .ok (.iload_n 2, 1) := by decide +kernel
theorem dX5_fewestAlike_77 : decode cX5_fewestAlike 77 = .ok (.iload_n 3, 1) := by decide +kernel
theorem dX5_fewestAlike_78 : decode cX5_fewestAlike 78 = .ok (.iload 4, 2) := by decide +kernel
theorem dX5_fewestAlike_80 : decode cX5_fewestAlike 80 = .ok (.if_icmp .le 7, 3) := by decide +kernel
theorem dX5_fewestAlike_83 : decode cX5_fewestAlike 83 = .ok (.iload_n 3, 1) := by decide +kernel
theorem dX5_fewestAlike_84 : decode cX5_fewestAlike 84 = .ok (.goto 5, 3) := by decide +kernel
theorem dX5_fewestAlike_87 : decode cX5_fewestAlike 87 = .ok (.iload 4, 2) := by decide +kernel
theorem dX5_fewestAlike_89 : decode cX5_fewestAlike 89 = .ok (.imul, 1) := by decide +kernel
theorem dX5_fewestAlike_90 : decode cX5_fewestAlike 90 = .ok (.iadd, 1) := by decide +kernel
theorem dX5_fewestAlike_91 : decode cX5_fewestAlike 91 = .ok (.istore_n 1, 1) := by decide +kernel
theorem dX5_fewestAlike_92 : decode cX5_fewestAlike 92 = .ok (.iinc 2 1, 3) := by decide +kernel
theorem dX5_fewestAlike_95 : decode cX5_fewestAlike 95 = .ok (.goto (-91), 3) := by decide +kernel
theorem dX5_fewestAlike_98 : decode cX5_fewestAlike 98 = .ok (.iload_n 1, 1) := by decide +kernel
theorem dX5_fewestAlike_99 : decode cX5_fewestAlike 99 = .ok (.ireturn, 1) := by decide +kernel
set_option maxRecDepth 20000 in
theorem ggX5_alike_X5_fewestAlike : GoodIn wsX5_alike wsX5_fewestAlike := goodIn_r _ [5, 6, 7, 8, 9, 4, 10, 11, 12, 13, 14, 15, 16, 17, 18, 23, 24, 25, 26, 27, 28, 29, 30, 31, 32, 33, 34, 35, 36, 37, 38, 39] (by decide +kernel) (by decide +kernel)
set_option maxRecDepth 20000 in
theorem gX5_alike_X5_fewestAlike : GoodIn wsX5_alike (wsV RX5 208 RX5 yX5_fewestAlike wsX5_fewestAlike) := goodIn_app (goodIn_of _ (by decide +kernel)) ggX5_alike_X5_fewestAlike
set_option maxRecDepth 20000 in
theorem ggX5_alike_X5_mostAlike : GoodIn wsX5_alike wsX5_mostAlike := goodIn_r _ [22, 6, 7, 8, 9, 4, 10, 11, 12, 13, 14, 15, 16, 17, 18, 23, 24, 25, 26, 27, 28, 29, 30, 31, 32, 33, 34, 35, 36, 37, 38, 39] (by decide +kernel) (by decide +kernel)
set_option maxRecDepth 20000 in
theorem gX5_alike_X5_mostAlike : GoodIn wsX5_alike (wsV RX5 211 RX5 yX5_mostAlike wsX5_mostAlike) := goodIn_app (goodIn_of _ (by decide +kernel)) ggX5_alike_X5_mostAlike
theorem dX5_alike_0 : decode cX5_alike 0 = .ok (.iload_n 1, 1) := by decide +kernel
theorem dX5_alike_1 : decode cX5_alike 1 = .ok (.ifCond .ne 10, 3) := by decide +kernel
theorem dX5_alike_4 : decode cX5_alike 4 = .ok (.aload_n 0, 1) := by decide +kernel
theorem dX5_alike_5 : decode cX5_alike 5 = .ok (.invokevirtual 208, 3) := by decide +kernel
theorem dX5_alike_8 : decode cX5_alike 8 = .ok (.goto 7, 3) := by decide +kernel
theorem dX5_alike_11 : decode cX5_alike 11 = .ok (.aload_n 0, 1) := by decide +kernel
theorem dX5_alike_12 : decode cX5_alike 12 = .ok (.invokevirtual 211, 3) := by decide +kernel
theorem dX5_alike_15 : decode cX5_alike 15 = .ok (.ireturn, 1) := by decide +kernel
set_option maxRecDepth 20000 in
theorem ggX5_same_X5_in : GoodIn wsX5_same wsX5_in := goodIn_r _ [5] (by decide +kernel) (by decide +kernel)
set_option maxRecDepth 20000 in
theorem gX5_same_X5_in : GoodIn wsX5_same (va_wsS RX5 51 yX5_in wsX5_in) := goodIn_app (goodIn_of _ (by decide +kernel)) ggX5_same_X5_in
set_option maxRecDepth 20000 in
theorem ggX5_same_X5_alike : GoodIn wsX5_same wsX5_alike := goodIn_r _ [9, 10, 11, 12, 4, 13, 14, 15, 16, 17, 18, 19, 20, 21, 22, 23, 24, 25, 26, 27, 28, 29, 30, 31, 32, 33, 34, 35, 36, 37, 38, 39, 40, 41, 42, 43, 44, 45, 46, 47] (by decide +kernel) (by decide +kernel)
set_option maxRecDepth 20000 in
theorem gX5_same_X5_alike : GoodIn wsX5_same (wsV RX5 214 RX5 yX5_alike wsX5_alike) := goodIn_app (goodIn_of _ (by decide +kernel)) ggX5_same_X5_alike
theorem dX5_same_0 : decode cX5_same 0 = .ok (.aload_n 0, 1) := by decide +kernel
theorem dX5_same_1 : decode cX5_same 1 = .ok (.iload_n 1, 1) := by decide +kernel
theorem dX5_same_2 : decode cX5_same 2 = .ok (.iconst 0, 1) := by decide +kernel
theorem dX5_same_3 : decode cX5_same 3 = .ok (.iconst 1, 1) := by decide +kernel
theorem dX5_same_4 : decode cX5_same 4 = .ok (.invokestatic 51, 3) := by decide +kernel
theorem dX5_same_7 : decode cX5_same 7 = .ok (.ifCond .eq 7, 3) := by decide +kernel
theorem dX5_same_10 : decode cX5_same 10 = .ok (.iconst 0, 1) := by decide +kernel
theorem dX5_same_11 : decode cX5_same 11 = .ok (.goto 4, 3) := by decide +kernel
theorem dX5_same_14 : decode cX5_same 14 = .ok (.iconst 1, 1) := by decide +kernel
theorem dX5_same_15 : decode cX5_same 15 = .ok (.putfield 47, 3) := by decide +kernel
theorem dX5_same_18 : decode cX5_same 18 = .ok (.aload_n 0, 1) := by decide +kernel
theorem dX5_same_19 : decode cX5_same 19 = .ok (.getfield 47, 3) := by decide +kernel
theorem dX5_same_22 : decode cX5_same 22 = .ok (.ifCond .le 7, 3) := by decide +kernel
theorem dX5_same_25 : decode cX5_same 25 = .ok (.iconst 0, 1) := by decide +kernel
theorem dX5_same_26 : decode cX5_same 26 = .ok (.goto 8, 3) := by decide +kernel
theorem dX5_same_29 : decode cX5_same 29 = .ok (.aload_n 0, 1) := by decide +kernel
theorem dX5_same_30 : decode cX5_same 30 = .ok (.iload_n 1, 1) := by decide +kernel
theorem dX5_same_31 : decode cX5_same 31 = .ok (.invokevirtual 214, 3) := by decide +kernel
theorem dX5_same_34 : decode cX5_same 34 = .ok (.ireturn, 1) := by decide +kernel
set_option maxRecDepth 20000 in
theorem ggX5_turnFor_X5_seenNow : GoodIn wsX5_turnFor wsX5_seenNow := goodIn_r _ [5, 6, 7, 8, 4, 9, 10, 11, 12, 13, 14, 15, 16, 17, 18, 19, 20, 21, 22, 23, 24, 25, 26, 27, 28, 29, 30, 31, 32, 33, 34, 35, 36, 37, 51, 52, 53, 54, 55, 56, 57, 58, 59, 60, 61, 62, 63, 64, 65, 66, 67] (by decide +kernel) (by decide +kernel)
set_option maxRecDepth 20000 in
theorem gX5_turnFor_X5_seenNow : GoodIn wsX5_turnFor (wsV RX5 117 RX5 yX5_seenNow wsX5_seenNow) := goodIn_app (goodIn_of _ (by decide +kernel)) ggX5_turnFor_X5_seenNow
set_option maxRecDepth 20000 in
theorem ggX5_turnFor_X5_turnIt : GoodIn wsX5_turnFor wsX5_turnIt := goodIn_r _ [41, 42, 12, 43, 44, 45, 4, 46, 47, 48, 49, 50, 14, 15, 16, 17, 51, 52, 53, 54, 55, 56, 57, 58, 59, 60, 61, 62, 63, 64, 65, 66, 67] (by decide +kernel) (by decide +kernel)
set_option maxRecDepth 20000 in
theorem gX5_turnFor_X5_turnIt : GoodIn wsX5_turnFor (wsV RX5 114 RX5 yX5_turnIt wsX5_turnIt) := goodIn_app (goodIn_of _ (by decide +kernel)) ggX5_turnFor_X5_turnIt
theorem dX5_turnFor_0 : decode cX5_turnFor 0 = .ok (.iconst 0, 1) := by decide +kernel
theorem dX5_turnFor_1 : decode cX5_turnFor 1 = .ok (.istore_n 1, 1) := by decide +kernel
theorem dX5_turnFor_2 : decode cX5_turnFor 2 = .ok (.iconst (-1), 1) := by decide +kernel
theorem dX5_turnFor_3 : decode cX5_turnFor 3 = .ok (.istore_n 2, 1) := by decide +kernel
theorem dX5_turnFor_4 : decode cX5_turnFor 4 = .ok (.iconst 0, 1) := by decide +kernel
theorem dX5_turnFor_5 : decode cX5_turnFor 5 = .ok (.istore_n 3, 1) := by decide +kernel
theorem dX5_turnFor_6 : decode cX5_turnFor 6 = .ok (.iload_n 3, 1) := by decide +kernel
theorem dX5_turnFor_7 : decode cX5_turnFor 7 = .ok (.iconst 4, 1) := by decide +kernel
theorem dX5_turnFor_8 : decode cX5_turnFor 8 = .ok (.if_icmp .ge 44, 3) := by decide +kernel
theorem dX5_turnFor_11 : decode cX5_turnFor 11 = .ok (.aload_n 0, 1) := by decide +kernel
theorem dX5_turnFor_12 : decode cX5_turnFor 12 = .ok (.invokevirtual 117, 3) := by decide +kernel
theorem dX5_turnFor_15 : decode cX5_turnFor 15 = .ok (.istore 4, 2) := by decide +kernel
theorem dX5_turnFor_17 : decode cX5_turnFor 17 = .ok (.iload 4, 2) := by decide +kernel
theorem dX5_turnFor_19 : decode cX5_turnFor 19 = .ok (.iload_n 2, 1) := by decide +kernel
theorem dX5_turnFor_20 : decode cX5_turnFor 20 = .ok (.if_icmp .le 7, 3) := by decide +kernel
theorem dX5_turnFor_23 : decode cX5_turnFor 23 = .ok (.iload_n 3, 1) := by decide +kernel
theorem dX5_turnFor_24 : decode cX5_turnFor 24 = .ok (.goto 4, 3) := by decide +kernel
theorem dX5_turnFor_27 : decode cX5_turnFor 27 = .ok (.iload_n 1, 1) := by decide +kernel
theorem dX5_turnFor_28 : decode cX5_turnFor 28 = .ok (.istore_n 1, 1) := by decide +kernel
theorem dX5_turnFor_29 : decode cX5_turnFor 29 = .ok (.iload 4, 2) := by decide +kernel
theorem dX5_turnFor_31 : decode cX5_turnFor 31 = .ok (.iload_n 2, 1) := by decide +kernel
theorem dX5_turnFor_32 : decode cX5_turnFor 32 = .ok (.if_icmp .le 8, 3) := by decide +kernel
theorem dX5_turnFor_35 : decode cX5_turnFor 35 = .ok (.iload 4, 2) := by decide +kernel
theorem dX5_turnFor_37 : decode cX5_turnFor 37 = .ok (.goto 4, 3) := by decide +kernel
theorem dX5_turnFor_40 : decode cX5_turnFor 40 = .ok (.iload_n 2, 1) := by decide +kernel
theorem dX5_turnFor_41 : decode cX5_turnFor 41 = .ok (.istore_n 2, 1) := by decide +kernel
theorem dX5_turnFor_42 : decode cX5_turnFor 42 = .ok (.aload_n 0, 1) := by decide +kernel
theorem dX5_turnFor_43 : decode cX5_turnFor 43 = .ok (.invokevirtual 114, 3) := by decide +kernel
theorem dX5_turnFor_46 : decode cX5_turnFor 46 = .ok (.iinc 3 1, 3) := by decide +kernel
theorem dX5_turnFor_49 : decode cX5_turnFor 49 = .ok (.goto (-43), 3) := by decide +kernel
theorem dX5_turnFor_52 : decode cX5_turnFor 52 = .ok (.iload_n 1, 1) := by decide +kernel
theorem dX5_turnFor_53 : decode cX5_turnFor 53 = .ok (.ireturn, 1) := by decide +kernel
set_option maxRecDepth 20000 in
theorem ggX5_bestTurn_X5_turnFor : GoodIn wsX5_bestTurn wsX5_turnFor := goodIn_r _ [6, 7, 8, 9, 5, 10, 11, 12, 13, 14, 15, 16, 17, 18, 19, 20, 21, 22, 23, 24, 25, 26, 27, 28, 29, 30, 31, 32, 33, 34, 35, 36, 37, 38, 39, 40, 41, 42, 43, 44, 45, 46, 47, 48, 49, 50, 51, 52, 53, 54, 55, 56, 57, 58, 59, 60, 61, 62, 63, 64, 65, 66, 67, 68, 69, 70, 71, 72] (by decide +kernel) (by decide +kernel)
set_option maxRecDepth 20000 in
theorem gX5_bestTurn_X5_turnFor : GoodIn wsX5_bestTurn (wsV RX5 217 RX5 yX5_turnFor wsX5_turnFor) := goodIn_app (goodIn_of _ (by decide +kernel)) ggX5_bestTurn_X5_turnFor
theorem dX5_bestTurn_0 : decode cX5_bestTurn 0 = .ok (.aload_n 0, 1) := by decide +kernel
theorem dX5_bestTurn_1 : decode cX5_bestTurn 1 = .ok (.iconst 0, 1) := by decide +kernel
theorem dX5_bestTurn_2 : decode cX5_bestTurn 2 = .ok (.putfield 47, 3) := by decide +kernel
theorem dX5_bestTurn_5 : decode cX5_bestTurn 5 = .ok (.aload_n 0, 1) := by decide +kernel
theorem dX5_bestTurn_6 : decode cX5_bestTurn 6 = .ok (.invokevirtual 217, 3) := by decide +kernel
theorem dX5_bestTurn_9 : decode cX5_bestTurn 9 = .ok (.ireturn, 1) := by decide +kernel
set_option maxRecDepth 20000 in
theorem ggX5_share_X5_blockMany : GoodIn wsX5_share wsX5_blockMany := goodIn_r _ [5, 6, 42, 43, 44, 45, 46, 47, 48, 49, 50, 51, 52, 53, 54, 55, 56, 57, 58] (by decide +kernel) (by decide +kernel)
set_option maxRecDepth 20000 in
theorem gX5_share_X5_blockMany : GoodIn wsX5_share (wsV RX5 181 RX5 yX5_blockMany wsX5_blockMany) := goodIn_app (goodIn_of _ (by decide +kernel)) ggX5_share_X5_blockMany
set_option maxRecDepth 20000 in
theorem ggX5_share_X5_seenNow : GoodIn wsX5_share wsX5_seenNow := goodIn_r _ [10, 11, 12, 13, 4, 14, 15, 16, 6, 17, 18, 19, 20, 21, 22, 23, 24, 25, 26, 27, 28, 29, 30, 31, 32, 33, 34, 35, 36, 37, 38, 39, 40, 41, 42, 43, 44, 45, 46, 47, 48, 49, 50, 51, 52, 53, 54, 55, 56, 57, 58] (by decide +kernel) (by decide +kernel)
set_option maxRecDepth 20000 in
theorem gX5_share_X5_seenNow : GoodIn wsX5_share (wsV RX5 117 RX5 yX5_seenNow wsX5_seenNow) := goodIn_app (goodIn_of _ (by decide +kernel)) ggX5_share_X5_seenNow
theorem dX5_share_0 : decode cX5_share 0 = .ok (.aload_n 0, 1) := by decide +kernel
theorem dX5_share_1 : decode cX5_share 1 = .ok (.invokevirtual 181, 3) := by decide +kernel
theorem dX5_share_4 : decode cX5_share 4 = .ok (.ifCond .ne 7, 3) := by decide +kernel
theorem dX5_share_7 : decode cX5_share 7 = .ok (.dconst 1, 1) := by decide +kernel
theorem dX5_share_8 : decode cX5_share 8 = .ok (.goto 14, 3) := by decide +kernel
theorem dX5_share_11 : decode cX5_share 11 = .ok (.aload_n 0, 1) := by decide +kernel
theorem dX5_share_12 : decode cX5_share 12 = .ok (.invokevirtual 117, 3) := by decide +kernel
theorem dX5_share_15 : decode cX5_share 15 = .ok (.i2d, 1) := by decide +kernel
theorem dX5_share_16 : decode cX5_share 16 = .ok (.aload_n 0, 1) := by decide +kernel
theorem dX5_share_17 : decode cX5_share 17 = .ok (.invokevirtual 181, 3) := by decide +kernel
theorem dX5_share_20 : decode cX5_share 20 = .ok (.i2d, 1) := by decide +kernel
theorem dX5_share_21 : decode cX5_share 21 = .ok (.ddiv, 1) := by decide +kernel
theorem dX5_share_22 : decode cX5_share 22 = .ok (.dreturn, 1) := by decide +kernel
set_option maxRecDepth 20000 in
theorem ggX5_seenShare_X5_share : GoodIn wsX5_seenShare wsX5_share := goodIn_r _ [6, 7, 8, 9, 5, 10, 11, 12, 13, 14, 15, 16, 17, 18, 19, 20, 21, 22, 23, 24, 25, 26, 27, 28, 29, 30, 31, 32, 33, 34, 35, 36, 37, 38, 39, 40, 41, 42, 43, 44, 45, 46, 47, 48, 49, 50, 51, 52, 53, 54, 55, 56, 57, 58, 59, 60, 61, 62, 63] (by decide +kernel) (by decide +kernel)
set_option maxRecDepth 20000 in
theorem gX5_seenShare_X5_share : GoodIn wsX5_seenShare (wsV RX5 220 RX5 yX5_share wsX5_share) := goodIn_app (goodIn_of _ (by decide +kernel)) ggX5_seenShare_X5_share
theorem dX5_seenShare_0 : decode cX5_seenShare 0 = .ok (.aload_n 0, 1) := by decide +kernel
theorem dX5_seenShare_1 : decode cX5_seenShare 1 = .ok (.iconst 0, 1) := by decide +kernel
theorem dX5_seenShare_2 : decode cX5_seenShare 2 = .ok (.putfield 47, 3) := by decide +kernel
theorem dX5_seenShare_5 : decode cX5_seenShare 5 = .ok (.aload_n 0, 1) := by decide +kernel
theorem dX5_seenShare_6 : decode cX5_seenShare 6 = .ok (.invokevirtual 220, 3) := by decide +kernel
theorem dX5_seenShare_9 : decode cX5_seenShare 9 = .ok (.dreturn, 1) := by decide +kernel
theorem dX5_bitsOf_0 : decode cX5_bitsOf 0 = .ok (.dload_n 0, 1) := by decide +kernel
theorem dX5_bitsOf_1 : decode cX5_bitsOf 1 = .ok (.dconst 0, 1) := by decide +kernel
theorem dX5_bitsOf_2 : decode cX5_bitsOf 2 = .ok (.dcmp .l, 1) := by decide +kernel
theorem dX5_bitsOf_3 : decode cX5_bitsOf 3 = .ok (.ifCond .ne 5, 3) := by decide +kernel
theorem dX5_bitsOf_6 : decode cX5_bitsOf 6 = .ok (.lconst 0, 1) := by decide +kernel
theorem dX5_bitsOf_7 : decode cX5_bitsOf 7 = .ok (.lreturn, 1) := by decide +kernel
theorem dX5_bitsOf_8 : decode cX5_bitsOf 8 = .ok (.dload_n 0, 1) := by decide +kernel
theorem dX5_bitsOf_9 : decode cX5_bitsOf 9 = .ok (.dstore_n 2, 1) := by decide +kernel
theorem dX5_bitsOf_10 : decode cX5_bitsOf 10 = .ok (.ldc2_w 224, 3) := by decide +kernel
theorem dX5_bitsOf_13 : decode cX5_bitsOf 13 = .ok (.lstore 4, 2) := by decide +kernel
theorem dX5_bitsOf_15 : decode cX5_bitsOf 15 = .ok (.dload_n 2, 1) := by decide +kernel
theorem dX5_bitsOf_16 : decode cX5_bitsOf 16 = .ok (.ldc2_w 226, 3) := by decide +kernel
theorem dX5_bitsOf_19 : decode cX5_bitsOf 19 = .ok (.dcmp .l, 1) := by decide +kernel
theorem dX5_bitsOf_20 : decode cX5_bitsOf 20 = .ok (.ifCond .lt 18, 3) := by decide +kernel
theorem dX5_bitsOf_23 : decode cX5_bitsOf 23 = .ok (.dload_n 2, 1) := by decide +kernel
theorem dX5_bitsOf_24 : decode cX5_bitsOf 24 = .ok (.ldc2_w 226, 3) := by decide +kernel
theorem dX5_bitsOf_27 : decode cX5_bitsOf 27 = .ok (.ddiv, 1) := by decide +kernel
theorem dX5_bitsOf_28 : decode cX5_bitsOf 28 = .ok (.dstore_n 2, 1) := by decide +kernel
theorem dX5_bitsOf_29 : decode cX5_bitsOf 29 = .ok (.lload 4, 2) := by decide +kernel
theorem dX5_bitsOf_31 : decode cX5_bitsOf 31 = .ok (.lconst 1, 1) := by decide +kernel
theorem dX5_bitsOf_32 : decode cX5_bitsOf 32 = .ok (.ladd, 1) := by decide +kernel
theorem dX5_bitsOf_33 : decode cX5_bitsOf 33 = .ok (.lstore 4, 2) := by decide +kernel
theorem dX5_bitsOf_35 : decode cX5_bitsOf 35 = .ok (.goto (-20), 3) := by decide +kernel
theorem dX5_bitsOf_38 : decode cX5_bitsOf 38 = .ok (.dload_n 2, 1) := by decide +kernel
theorem dX5_bitsOf_39 : decode cX5_bitsOf 39 = .ok (.dconst 1, 1) := by decide +kernel
theorem dX5_bitsOf_40 : decode cX5_bitsOf 40 = .ok (.dcmp .g, 1) := by decide +kernel
theorem dX5_bitsOf_41 : decode cX5_bitsOf 41 = .ok (.ifCond .ge 18, 3) := by decide +kernel
theorem dX5_bitsOf_44 : decode cX5_bitsOf 44 = .ok (.dload_n 2, 1) := by decide +kernel
theorem dX5_bitsOf_45 : decode cX5_bitsOf 45 = .ok (.ldc2_w 226, 3) := by decide +kernel
theorem dX5_bitsOf_48 : decode cX5_bitsOf 48 = .ok (.dmul, 1) := by decide +kernel
theorem dX5_bitsOf_49 : decode cX5_bitsOf 49 = .ok (.dstore_n 2, 1) := by decide +kernel
theorem dX5_bitsOf_50 : decode cX5_bitsOf 50 = .ok (.lload 4, 2) := by decide +kernel
theorem dX5_bitsOf_52 : decode cX5_bitsOf 52 = .ok (.lconst 1, 1) := by decide +kernel
theorem dX5_bitsOf_53 : decode cX5_bitsOf 53 = .ok (.lsub, 1) := by decide +kernel
theorem dX5_bitsOf_54 : decode cX5_bitsOf 54 = .ok (.lstore 4, 2) := by decide +kernel
theorem dX5_bitsOf_56 : decode cX5_bitsOf 56 = .ok (.goto (-18), 3) := by decide +kernel
theorem dX5_bitsOf_59 : decode cX5_bitsOf 59 = .ok (.lload 4, 2) := by decide +kernel
theorem dX5_bitsOf_61 : decode cX5_bitsOf 61 = .ok (.bipush 52, 2) := by decide +kernel
theorem dX5_bitsOf_63 : decode cX5_bitsOf 63 = .ok (.lshl, 1) := by decide +kernel
theorem dX5_bitsOf_64 : decode cX5_bitsOf 64 = .ok (.dload_n 2, 1) := by decide +kernel
theorem dX5_bitsOf_65 : decode cX5_bitsOf 65 = .ok (.ldc2_w 228, 3) := by decide +kernel
theorem dX5_bitsOf_68 : decode cX5_bitsOf 68 = .ok (.dmul, 1) := by decide +kernel
theorem dX5_bitsOf_69 : decode cX5_bitsOf 69 = .ok (.d2l, 1) := by decide +kernel
theorem dX5_bitsOf_70 : decode cX5_bitsOf 70 = .ok (.ladd, 1) := by decide +kernel
theorem dX5_bitsOf_71 : decode cX5_bitsOf 71 = .ok (.ldc2_w 230, 3) := by decide +kernel
theorem dX5_bitsOf_74 : decode cX5_bitsOf 74 = .ok (.lsub, 1) := by decide +kernel
theorem dX5_bitsOf_75 : decode cX5_bitsOf 75 = .ok (.lreturn, 1) := by decide +kernel
theorem dX5_mix_0 : decode cX5_mix 0 = .ok (.aload_n 0, 1) := by decide +kernel
theorem dX5_mix_1 : decode cX5_mix 1 = .ok (.ldc2_w 232, 3) := by decide +kernel
theorem dX5_mix_4 : decode cX5_mix 4 = .ok (.aload_n 0, 1) := by decide +kernel
theorem dX5_mix_5 : decode cX5_mix 5 = .ok (.getfield 234, 3) := by decide +kernel
theorem dX5_mix_8 : decode cX5_mix 8 = .ok (.lmul, 1) := by decide +kernel
theorem dX5_mix_9 : decode cX5_mix 9 = .ok (.lload_n 1, 1) := by decide +kernel
theorem dX5_mix_10 : decode cX5_mix 10 = .ok (.ladd, 1) := by decide +kernel
theorem dX5_mix_11 : decode cX5_mix 11 = .ok (.putfield 234, 3) := by decide +kernel
theorem dX5_mix_14 : decode cX5_mix 14 = .ok (.return_, 1) := by decide +kernel
set_option maxRecDepth 20000 in
theorem ggX5_mixSquare_X5_layPicture : GoodIn wsX5_mixSquare wsX5_layPicture := goodIn_r _ [5, 6, 7, 8, 9, 10, 11, 12, 4, 13, 14, 15, 16, 17, 18, 19, 20, 21, 22, 23, 24, 25, 95, 96, 97, 98, 99, 100, 101, 102, 103, 104, 105, 106, 107, 108, 109, 110, 111] (by decide +kernel) (by decide +kernel)
set_option maxRecDepth 20000 in
theorem gX5_mixSquare_X5_layPicture : GoodIn wsX5_mixSquare (wsV RX5 78 RX5 yX5_layPicture wsX5_layPicture) := goodIn_app (goodIn_of _ (by decide +kernel)) ggX5_mixSquare_X5_layPicture
set_option maxRecDepth 20000 in
theorem ggX5_mixSquare_X5_toldStack : GoodIn wsX5_mixSquare wsX5_toldStack := goodIn_r _ [29, 8, 10, 11, 12, 4, 13, 30, 31, 32, 33, 34, 35, 36, 37, 38, 39, 40, 41, 42, 43, 44, 45, 46, 47, 48, 49, 50, 51, 52, 53, 54, 55, 7, 95, 96, 97, 98, 99, 100, 101, 102, 103, 104, 105, 106, 107, 108, 109, 110, 111] (by decide +kernel) (by decide +kernel)
set_option maxRecDepth 20000 in
theorem gX5_mixSquare_X5_toldStack : GoodIn wsX5_mixSquare (wsV RX5 150 RX5 yX5_toldStack wsX5_toldStack) := goodIn_app (goodIn_of _ (by decide +kernel)) ggX5_mixSquare_X5_toldStack
set_option maxRecDepth 20000 in
theorem ggX5_mixSquare_X5_mix : GoodIn wsX5_mixSquare wsX5_mix := goodIn_r _ [59, 60, 61, 95, 96, 97, 98, 99, 100, 101, 102, 103, 104, 105, 106, 107, 108, 109, 110, 111] (by decide +kernel) (by decide +kernel)
set_option maxRecDepth 20000 in
theorem gX5_mixSquare_X5_mix : GoodIn wsX5_mixSquare (wsV RX5 238 RX5 yX5_mix wsX5_mix) := goodIn_app (goodIn_of _ (by decide +kernel)) ggX5_mixSquare_X5_mix
set_option maxRecDepth 20000 in
theorem ggX5_mixSquare_X5_height : GoodIn wsX5_mixSquare wsX5_height := goodIn_r _ [13, 8, 95, 96, 97, 98, 99, 100, 101, 102, 103, 104, 105, 106, 107, 108, 109, 110, 111] (by decide +kernel) (by decide +kernel)
set_option maxRecDepth 20000 in
theorem gX5_mixSquare_X5_height : GoodIn wsX5_mixSquare (wsV RX5 66 RX5 yX5_height wsX5_height) := goodIn_app (goodIn_of _ (by decide +kernel)) ggX5_mixSquare_X5_height
set_option maxRecDepth 20000 in
theorem ggX5_mixSquare_X5_toldBlock : GoodIn wsX5_mixSquare wsX5_toldBlock := goodIn_r _ [65, 7, 30, 31, 32, 4, 33, 8, 52, 53, 54, 55, 95, 96, 97, 98, 99, 100, 101, 102, 103, 104, 105, 106, 107, 108, 109, 110, 111] (by decide +kernel) (by decide +kernel)
set_option maxRecDepth 20000 in
theorem gX5_mixSquare_X5_toldBlock : GoodIn wsX5_mixSquare (wsV RX5 156 RX5 yX5_toldBlock wsX5_toldBlock) := goodIn_app (goodIn_of _ (by decide +kernel)) ggX5_mixSquare_X5_toldBlock
set_option maxRecDepth 20000 in
theorem ggX5_mixSquare_X5_wouldPut : GoodIn wsX5_mixSquare wsX5_wouldPut := goodIn_r _ [69, 8, 70, 6, 10, 11, 12, 4, 13, 71, 72, 73, 74, 1, 2, 3, 5, 7, 9, 14, 15, 16, 17, 18, 19, 20, 21, 22, 23, 24, 25, 75, 76, 77, 78, 52, 53, 54, 55, 79, 80, 81, 82, 34, 35, 36, 37, 38, 39, 40, 41, 42, 43, 44, 45, 46, 47, 83, 84, 85, 86, 87, 88, 89, 90, 91, 92, 93, 94, 95, 96, 97, 98, 99, 100, 101, 102, 103, 104, 105, 106, 107, 108, 109, 110, 111] (by decide +kernel) (by decide +kernel)
set_option maxRecDepth 20000 in
theorem gX5_mixSquare_X5_wouldPut : GoodIn wsX5_mixSquare (wsV RX5 202 RX5 yX5_wouldPut wsX5_wouldPut) := goodIn_app (goodIn_of _ (by decide +kernel)) ggX5_mixSquare_X5_wouldPut
theorem dX5_mixSquare_0 : decode cX5_mixSquare 0 = .ok (.aload_n 0, 1) := by decide +kernel
theorem dX5_mixSquare_1 : decode cX5_mixSquare 1 = .ok (.invokevirtual 78, 3) := by decide +kernel
theorem dX5_mixSquare_4 : decode cX5_mixSquare 4 = .ok (.iconst 0, 1) := by decide +kernel
theorem dX5_mixSquare_5 : decode cX5_mixSquare 5 = .ok (.istore_n 3, 1) := by decide +kernel
theorem dX5_mixSquare_6 : decode cX5_mixSquare 6 = .ok (.iload_n 3, 1) := by decide +kernel
theorem dX5_mixSquare_7 : decode cX5_mixSquare 7 = .ok (.iconst 3, 1) := by decide +kernel
theorem dX5_mixSquare_8 : decode cX5_mixSquare 8 = .ok (.if_icmp .gt 21, 3) := by decide +kernel
theorem dX5_mixSquare_11 : decode cX5_mixSquare 11 = .ok (.aload_n 0, 1) := by decide +kernel
theorem dX5_mixSquare_12 : decode cX5_mixSquare 12 = .ok (.aload_n 0, 1) := by decide +kernel
theorem dX5_mixSquare_13 : decode cX5_mixSquare 13 = .ok (.iload_n 1, 1) := by decide +kernel
theorem dX5_mixSquare_14 : decode cX5_mixSquare 14 = .ok (.iload_n 2, 1) := by decide +kernel
theorem dX5_mixSquare_15 : decode cX5_mixSquare 15 = .ok (.iload_n 3, 1) := by decide +kernel
theorem dX5_mixSquare_16 : decode cX5_mixSquare 16 = .ok (.invokevirtual 150, 3) := by decide +kernel
theorem dX5_mixSquare_19 : decode cX5_mixSquare 19 = .ok (.i2l, 1) := by decide +kernel
theorem dX5_mixSquare_20 : decode cX5_mixSquare 20 = .ok (.invokevirtual 238, 3) := by decide +kernel
theorem dX5_mixSquare_23 : decode cX5_mixSquare 23 = .ok (.iinc 3 1, 3) := by decide +kernel
theorem dX5_mixSquare_26 : decode cX5_mixSquare 26 = .ok (.goto (-20), 3) := by decide +kernel
theorem dX5_mixSquare_29 : decode cX5_mixSquare 29 = .ok (.iconst 0, 1) := by decide +kernel
theorem dX5_mixSquare_30 : decode cX5_mixSquare 30 = .ok (.istore_n 3, 1) := by decide +kernel
theorem dX5_mixSquare_31 : decode cX5_mixSquare 31 = .ok (.iload_n 3, 1) := by decide +kernel
theorem dX5_mixSquare_32 : decode cX5_mixSquare 32 = .ok (.aload_n 0, 1) := by decide +kernel
theorem dX5_mixSquare_33 : decode cX5_mixSquare 33 = .ok (.iload_n 1, 1) := by decide +kernel
theorem dX5_mixSquare_34 : decode cX5_mixSquare 34 = .ok (.iload_n 2, 1) := by decide +kernel
theorem dX5_mixSquare_35 : decode cX5_mixSquare 35 = .ok (.invokevirtual 66, 3) := by decide +kernel
theorem dX5_mixSquare_38 : decode cX5_mixSquare 38 = .ok (.if_icmp .ge 38, 3) := by decide +kernel
theorem dX5_mixSquare_41 : decode cX5_mixSquare 41 = .ok (.iconst 0, 1) := by decide +kernel
theorem dX5_mixSquare_42 : decode cX5_mixSquare 42 = .ok (.istore 4, 2) := by decide +kernel
theorem dX5_mixSquare_44 : decode cX5_mixSquare 44 = .ok (.iload 4, 2) := by decide +kernel
theorem dX5_mixSquare_46 : decode cX5_mixSquare 46 = .ok (.iconst 4, 1) := by decide +kernel
theorem dX5_mixSquare_47 : decode cX5_mixSquare 47 = .ok (.if_icmp .gt 23, 3) := by decide +kernel
theorem dX5_mixSquare_50 : decode cX5_mixSquare 50 = .ok (.aload_n 0, 1) := by decide +kernel
theorem dX5_mixSquare_51 : decode cX5_mixSquare 51 = .ok (.aload_n 0, 1) := by decide +kernel
theorem dX5_mixSquare_52 : decode cX5_mixSquare 52 = .ok (.iload_n 1, 1) := by decide +kernel
theorem dX5_mixSquare_53 : decode cX5_mixSquare 53 = .ok (.iload_n 2, 1) := by decide +kernel
theorem dX5_mixSquare_54 : decode cX5_mixSquare 54 = .ok (.iload_n 3, 1) := by decide +kernel
theorem dX5_mixSquare_55 : decode cX5_mixSquare 55 = .ok (.iload 4, 2) := by decide +kernel
theorem dX5_mixSquare_57 : decode cX5_mixSquare 57 = .ok (.invokevirtual 156, 3) := by decide +kernel
theorem dX5_mixSquare_60 : decode cX5_mixSquare 60 = .ok (.i2l, 1) := by decide +kernel
theorem dX5_mixSquare_61 : decode cX5_mixSquare 61 = .ok (.invokevirtual 238, 3) := by decide +kernel
theorem dX5_mixSquare_64 : decode cX5_mixSquare 64 = .ok (.iinc 4 1, 3) := by decide +kernel
theorem dX5_mixSquare_67 : decode cX5_mixSquare 67 = .ok (.goto (-23), 3) := by decide +kernel
theorem dX5_mixSquare_70 : decode cX5_mixSquare 70 = .ok (.iinc 3 1, 3) := by decide +kernel
theorem dX5_mixSquare_73 : decode cX5_mixSquare 73 = .ok (.goto (-42), 3) := by decide +kernel
theorem dX5_mixSquare_76 : decode cX5_mixSquare 76 = .ok (.iconst 0, 1) := by decide +kernel
theorem dX5_mixSquare_77 : decode cX5_mixSquare 77 = .ok (.istore_n 3, 1) := by decide +kernel
theorem dX5_mixSquare_78 : decode cX5_mixSquare 78 = .ok (.iload_n 3, 1) := by decide +kernel
theorem dX5_mixSquare_79 : decode cX5_mixSquare 79 = .ok (.iconst 2, 1) := by decide +kernel
theorem dX5_mixSquare_80 : decode cX5_mixSquare 80 = .ok (.if_icmp .gt 21, 3) := by decide +kernel
theorem dX5_mixSquare_83 : decode cX5_mixSquare 83 = .ok (.aload_n 0, 1) := by decide +kernel
theorem dX5_mixSquare_84 : decode cX5_mixSquare 84 = .ok (.aload_n 0, 1) := by decide +kernel
theorem dX5_mixSquare_85 : decode cX5_mixSquare 85 = .ok (.iload_n 1, 1) := by decide +kernel
theorem dX5_mixSquare_86 : decode cX5_mixSquare 86 = .ok (.iload_n 2, 1) := by decide +kernel
theorem dX5_mixSquare_87 : decode cX5_mixSquare 87 = .ok (.iload_n 3, 1) := by decide +kernel
theorem dX5_mixSquare_88 : decode cX5_mixSquare 88 = .ok (.invokevirtual 202, 3) := by decide +kernel
theorem dX5_mixSquare_91 : decode cX5_mixSquare 91 = .ok (.i2l, 1) := by decide +kernel
theorem dX5_mixSquare_92 : decode cX5_mixSquare 92 = .ok (.invokevirtual 238, 3) := by decide +kernel
theorem dX5_mixSquare_95 : decode cX5_mixSquare 95 = .ok (.iinc 3 1, 3) := by decide +kernel
theorem dX5_mixSquare_98 : decode cX5_mixSquare 98 = .ok (.goto (-20), 3) := by decide +kernel
theorem dX5_mixSquare_101 : decode cX5_mixSquare 101 = .ok (.return_, 1) := by decide +kernel
set_option maxRecDepth 20000 in
theorem ggX5_mixLooks_X5_layPicture : GoodIn wsX5_mixLooks wsX5_layPicture := goodIn_r _ [6, 7, 8, 1, 9, 10, 11, 12, 5, 13, 14, 15, 16, 17, 18, 19, 20, 21, 22, 23, 24, 25, 56, 57, 58, 59, 60, 61, 62, 63, 64, 65, 66, 67, 68, 69, 70, 71, 72] (by decide +kernel) (by decide +kernel)
set_option maxRecDepth 20000 in
theorem gX5_mixLooks_X5_layPicture : GoodIn wsX5_mixLooks (wsV RX5 78 RX5 yX5_layPicture wsX5_layPicture) := goodIn_app (goodIn_of _ (by decide +kernel)) ggX5_mixLooks_X5_layPicture
set_option maxRecDepth 20000 in
theorem ggX5_mixLooks_X5_toldTriangle : GoodIn wsX5_mixLooks wsX5_toldTriangle := goodIn_r _ [29, 7, 9, 30, 31, 32, 5, 33, 1, 56, 57, 58, 59, 60, 61, 62, 63, 64, 65, 66, 67, 68, 69, 70, 71, 72] (by decide +kernel) (by decide +kernel)
set_option maxRecDepth 20000 in
theorem gX5_mixLooks_X5_toldTriangle : GoodIn wsX5_mixLooks (wsV RX5 163 RX5 yX5_toldTriangle wsX5_toldTriangle) := goodIn_app (goodIn_of _ (by decide +kernel)) ggX5_mixLooks_X5_toldTriangle
set_option maxRecDepth 20000 in
theorem ggX5_mixLooks_X5_mix : GoodIn wsX5_mixLooks wsX5_mix := goodIn_r _ [37, 38, 39, 56, 57, 58, 59, 60, 61, 62, 63, 64, 65, 66, 67, 68, 69, 70, 71, 72] (by decide +kernel) (by decide +kernel)
set_option maxRecDepth 20000 in
theorem gX5_mixLooks_X5_mix : GoodIn wsX5_mixLooks (wsV RX5 238 RX5 yX5_mix wsX5_mix) := goodIn_app (goodIn_of _ (by decide +kernel)) ggX5_mixLooks_X5_mix
set_option maxRecDepth 20000 in
theorem ggX5_mixLooks_X5_toldElevation : GoodIn wsX5_mixLooks wsX5_toldElevation := goodIn_r _ [43, 1, 44, 45, 46, 5, 47, 48, 49, 50, 51, 10, 11, 12, 13, 56, 57, 58, 59, 60, 61, 62, 63, 64, 65, 66, 67, 68, 69, 70, 71, 72] (by decide +kernel) (by decide +kernel)
set_option maxRecDepth 20000 in
theorem gX5_mixLooks_X5_toldElevation : GoodIn wsX5_mixLooks (wsV RX5 175 RX5 yX5_toldElevation wsX5_toldElevation) := goodIn_app (goodIn_of _ (by decide +kernel)) ggX5_mixLooks_X5_toldElevation
set_option maxRecDepth 20000 in
theorem ggX5_mixLooks_X5_cutAt : GoodIn wsX5_mixLooks wsX5_cutAt := goodIn_r _ [55, 1, 10, 11, 12, 5, 13, 56, 57, 58, 59, 60, 61, 62, 63, 64, 65, 66, 67, 68, 69, 70, 71, 72] (by decide +kernel) (by decide +kernel)
set_option maxRecDepth 20000 in
theorem gX5_mixLooks_X5_cutAt : GoodIn wsX5_mixLooks (wsV RX5 178 RX5 yX5_cutAt wsX5_cutAt) := goodIn_app (goodIn_of _ (by decide +kernel)) ggX5_mixLooks_X5_cutAt
theorem dX5_mixLooks_0 : decode cX5_mixLooks 0 = .ok (.aload_n 0, 1) := by decide +kernel
theorem dX5_mixLooks_1 : decode cX5_mixLooks 1 = .ok (.invokevirtual 78, 3) := by decide +kernel
theorem dX5_mixLooks_4 : decode cX5_mixLooks 4 = .ok (.iconst 0, 1) := by decide +kernel
theorem dX5_mixLooks_5 : decode cX5_mixLooks 5 = .ok (.istore_n 1, 1) := by decide +kernel
theorem dX5_mixLooks_6 : decode cX5_mixLooks 6 = .ok (.iload_n 1, 1) := by decide +kernel
theorem dX5_mixLooks_7 : decode cX5_mixLooks 7 = .ok (.sipush 512, 3) := by decide +kernel
theorem dX5_mixLooks_10 : decode cX5_mixLooks 10 = .ok (.if_icmp .ge 31, 3) := by decide +kernel
theorem dX5_mixLooks_13 : decode cX5_mixLooks 13 = .ok (.aload_n 0, 1) := by decide +kernel
theorem dX5_mixLooks_14 : decode cX5_mixLooks 14 = .ok (.aload_n 0, 1) := by decide +kernel
theorem dX5_mixLooks_15 : decode cX5_mixLooks 15 = .ok (.iload_n 1, 1) := by decide +kernel
theorem dX5_mixLooks_16 : decode cX5_mixLooks 16 = .ok (.iconst 0, 1) := by decide +kernel
theorem dX5_mixLooks_17 : decode cX5_mixLooks 17 = .ok (.invokevirtual 163, 3) := by decide +kernel
theorem dX5_mixLooks_20 : decode cX5_mixLooks 20 = .ok (.i2l, 1) := by decide +kernel
theorem dX5_mixLooks_21 : decode cX5_mixLooks 21 = .ok (.invokevirtual 238, 3) := by decide +kernel
theorem dX5_mixLooks_24 : decode cX5_mixLooks 24 = .ok (.aload_n 0, 1) := by decide +kernel
theorem dX5_mixLooks_25 : decode cX5_mixLooks 25 = .ok (.aload_n 0, 1) := by decide +kernel
theorem dX5_mixLooks_26 : decode cX5_mixLooks 26 = .ok (.iload_n 1, 1) := by decide +kernel
theorem dX5_mixLooks_27 : decode cX5_mixLooks 27 = .ok (.iconst 3, 1) := by decide +kernel
theorem dX5_mixLooks_28 : decode cX5_mixLooks 28 = .ok (.invokevirtual 163, 3) := by decide +kernel
theorem dX5_mixLooks_31 : decode cX5_mixLooks 31 = .ok (.i2l, 1) := by decide +kernel
theorem dX5_mixLooks_32 : decode cX5_mixLooks 32 = .ok (.invokevirtual 238, 3) := by decide +kernel
theorem dX5_mixLooks_35 : decode cX5_mixLooks 35 = .ok (.iinc 1 1, 3) := by decide +kernel
theorem dX5_mixLooks_38 : decode cX5_mixLooks 38 = .ok (.goto (-32), 3) := by decide +kernel
theorem dX5_mixLooks_41 : decode cX5_mixLooks 41 = .ok (.iconst 0, 1) := by decide +kernel
theorem dX5_mixLooks_42 : decode cX5_mixLooks 42 = .ok (.istore_n 1, 1) := by decide +kernel
theorem dX5_mixLooks_43 : decode cX5_mixLooks 43 = .ok (.iload_n 1, 1) := by decide +kernel
theorem dX5_mixLooks_44 : decode cX5_mixLooks 44 = .ok (.iconst 2, 1) := by decide +kernel
theorem dX5_mixLooks_45 : decode cX5_mixLooks 45 = .ok (.if_icmp .ge 52, 3) := by decide +kernel
theorem dX5_mixLooks_48 : decode cX5_mixLooks 48 = .ok (.iconst 0, 1) := by decide +kernel
theorem dX5_mixLooks_49 : decode cX5_mixLooks 49 = .ok (.istore_n 2, 1) := by decide +kernel
theorem dX5_mixLooks_50 : decode cX5_mixLooks 50 = .ok (.iload_n 2, 1) := by decide +kernel
theorem dX5_mixLooks_51 : decode cX5_mixLooks 51 = .ok (.aload_n 0, 1) := by decide +kernel
theorem dX5_mixLooks_52 : decode cX5_mixLooks 52 = .ok (.getfield 7, 3) := by decide +kernel
theorem dX5_mixLooks_55 : decode cX5_mixLooks 55 = .ok (.iconst 0, 1) := by decide +kernel
theorem dX5_mixLooks_56 : decode cX5_mixLooks 56 = .ok (.iaload, 1) := by decide +kernel
theorem dX5_mixLooks_57 : decode cX5_mixLooks 57 = .ok (.if_icmp .ge 34, 3) := by decide +kernel
theorem dX5_mixLooks_60 : decode cX5_mixLooks 60 = .ok (.iconst 0, 1) := by decide +kernel
theorem dX5_mixLooks_61 : decode cX5_mixLooks 61 = .ok (.istore_n 3, 1) := by decide +kernel
theorem dX5_mixLooks_62 : decode cX5_mixLooks 62 = .ok (.iload_n 3, 1) := by decide +kernel
theorem dX5_mixLooks_63 : decode cX5_mixLooks 63 = .ok (.iconst 2, 1) := by decide +kernel
theorem dX5_mixLooks_64 : decode cX5_mixLooks 64 = .ok (.if_icmp .gt 21, 3) := by decide +kernel
theorem dX5_mixLooks_67 : decode cX5_mixLooks 67 = .ok (.aload_n 0, 1) := by decide +kernel
theorem dX5_mixLooks_68 : decode cX5_mixLooks 68 = .ok (.aload_n 0, 1) := by decide +kernel
theorem dX5_mixLooks_69 : decode cX5_mixLooks 69 = .ok (.iload_n 1, 1) := by decide +kernel
theorem dX5_mixLooks_70 : decode cX5_mixLooks 70 = .ok (.iload_n 2, 1) := by decide +kernel
theorem dX5_mixLooks_71 : decode cX5_mixLooks 71 = .ok (.iload_n 3, 1) := by decide +kernel
theorem dX5_mixLooks_72 : decode cX5_mixLooks 72 = .ok (.invokevirtual 175, 3) := by decide +kernel
theorem dX5_mixLooks_75 : decode cX5_mixLooks 75 = .ok (.i2l, 1) := by decide +kernel
theorem dX5_mixLooks_76 : decode cX5_mixLooks 76 = .ok (.invokevirtual 238, 3) := by decide +kernel
theorem dX5_mixLooks_79 : decode cX5_mixLooks 79 = .ok (.iinc 3 1, 3) := by decide +kernel
theorem dX5_mixLooks_82 : decode cX5_mixLooks 82 = .ok (.goto (-20), 3) := by decide +kernel
theorem dX5_mixLooks_85 : decode cX5_mixLooks 85 = .ok (.iinc 2 1, 3) := by decide +kernel
theorem dX5_mixLooks_88 : decode cX5_mixLooks 88 = .ok (.goto (-38), 3) := by decide +kernel
theorem dX5_mixLooks_91 : decode cX5_mixLooks 91 = .ok (.iinc 1 1, 3) := by decide +kernel
theorem dX5_mixLooks_94 : decode cX5_mixLooks 94 = .ok (.goto (-51), 3) := by decide +kernel
theorem dX5_mixLooks_97 : decode cX5_mixLooks 97 = .ok (.iconst 0, 1) := by decide +kernel
theorem dX5_mixLooks_98 : decode cX5_mixLooks 98 = .ok (.istore_n 1, 1) := by decide +kernel
theorem dX5_mixLooks_99 : decode cX5_mixLooks 99 = .ok (.iload_n 1, 1) := by decide +kernel
theorem dX5_mixLooks_100 : decode cX5_mixLooks 100 = .ok (.iconst 2, 1) := by decide +kernel
theorem dX5_mixLooks_101 : decode cX5_mixLooks 101 = .ok (.if_icmp .ge 38, 3) := by decide +kernel
theorem dX5_mixLooks_104 : decode cX5_mixLooks 104 = .ok (.iconst 0, 1) := by decide +kernel
theorem dX5_mixLooks_105 : decode cX5_mixLooks 105 = .ok (.istore_n 2, 1) := by decide +kernel
theorem dX5_mixLooks_106 : decode cX5_mixLooks 106 = .ok (.iload_n 2, 1) := by decide +kernel
theorem dX5_mixLooks_107 : decode cX5_mixLooks 107 = .ok (.aload_n 0, 1) := by decide +kernel
theorem dX5_mixLooks_108 : decode cX5_mixLooks 108 = .ok (.getfield 7, 3) := by decide +kernel
theorem dX5_mixLooks_111 : decode cX5_mixLooks 111 = .ok (.iconst 0, 1) := by decide +kernel
theorem dX5_mixLooks_112 : decode cX5_mixLooks 112 = .ok (.iaload, 1) := by decide +kernel
theorem dX5_mixLooks_113 : decode cX5_mixLooks 113 = .ok (.if_icmp .ge 20, 3) := by decide +kernel
theorem dX5_mixLooks_116 : decode cX5_mixLooks 116 = .ok (.aload_n 0, 1) := by decide +kernel
theorem dX5_mixLooks_117 : decode cX5_mixLooks 117 = .ok (.aload_n 0, 1) := by decide +kernel
theorem dX5_mixLooks_118 : decode cX5_mixLooks 118 = .ok (.iload_n 1, 1) := by decide +kernel
theorem dX5_mixLooks_119 : decode cX5_mixLooks 119 = .ok (.iload_n 2, 1) := by decide +kernel
theorem dX5_mixLooks_120 : decode cX5_mixLooks 120 = .ok (.invokevirtual 178, 3) := by decide +kernel
theorem dX5_mixLooks_123 : decode cX5_mixLooks 123 = .ok (.i2l, 1) := by decide +kernel
theorem dX5_mixLooks_124 : decode cX5_mixLooks 124 = .ok (.invokevirtual 238, 3) := by decide +kernel
theorem dX5_mixLooks_127 : decode cX5_mixLooks 127 = .ok (.iinc 2 1, 3) := by decide +kernel
theorem dX5_mixLooks_130 : decode cX5_mixLooks 130 = .ok (.goto (-24), 3) := by decide +kernel
theorem dX5_mixLooks_133 : decode cX5_mixLooks 133 = .ok (.iinc 1 1, 3) := by decide +kernel
theorem dX5_mixLooks_136 : decode cX5_mixLooks 136 = .ok (.goto (-37), 3) := by decide +kernel
theorem dX5_mixLooks_139 : decode cX5_mixLooks 139 = .ok (.return_, 1) := by decide +kernel
set_option maxRecDepth 20000 in
theorem ggX5_digest_X5_counted : GoodIn wsX5_digest wsX5_counted := goodIn_r _ [11, 4, 12, 13, 14, 15, 10, 16, 17, 18, 19, 20, 21, 22, 23, 24, 25, 26, 27, 28, 29, 30, 31, 32, 33, 34, 35, 36, 37, 38, 39, 40, 41, 42, 43, 44, 45, 46, 47, 48, 49, 50, 51, 52, 53, 54, 55, 56, 57, 58, 59, 60, 61, 62, 63, 64, 65, 66, 67, 68, 69, 70, 71, 72, 73, 74, 75, 76, 77, 78, 79, 80, 81, 82, 83, 84, 85, 184, 185, 186, 187, 188, 189, 190, 191, 192, 193, 194, 195, 196, 197, 198, 199, 200] (by decide +kernel) (by decide +kernel)
set_option maxRecDepth 20000 in
theorem gX5_digest_X5_counted : GoodIn wsX5_digest (wsV RX5 196 RX5 yX5_counted wsX5_counted) := goodIn_app (goodIn_of _ (by decide +kernel)) ggX5_digest_X5_counted
set_option maxRecDepth 20000 in
theorem ggX5_digest_X5_mix : GoodIn wsX5_digest wsX5_mix := goodIn_r _ [89, 90, 3, 184, 185, 186, 187, 188, 189, 190, 191, 192, 193, 194, 195, 196, 197, 198, 199, 200] (by decide +kernel) (by decide +kernel)
set_option maxRecDepth 20000 in
theorem gX5_digest_X5_mix : GoodIn wsX5_digest (wsV RX5 238 RX5 yX5_mix wsX5_mix) := goodIn_app (goodIn_of _ (by decide +kernel)) ggX5_digest_X5_mix
set_option maxRecDepth 20000 in
theorem ggX5_digest_X5_mixSquare : GoodIn wsX5_digest wsX5_mixSquare := goodIn_r _ [94, 13, 14, 15, 10, 16, 17, 18, 4, 19, 20, 21, 22, 23, 24, 25, 26, 27, 28, 29, 30, 31, 32, 33, 34, 35, 95, 96, 97, 98, 60, 61, 62, 63, 68, 69, 70, 71, 72, 73, 74, 75, 76, 77, 78, 79, 80, 81, 99, 100, 101, 102, 44, 45, 46, 47, 86, 87, 88, 89, 90, 3, 103, 104, 105, 106, 107, 108, 109, 110, 111, 112, 113, 114, 115, 40, 41, 42, 43, 64, 65, 66, 67, 116, 117, 118, 119, 120, 121, 122, 123, 124, 125, 126, 127, 184, 185, 186, 187, 188, 189, 190, 191, 192, 193, 194, 195, 196, 197, 198, 199, 200] (by decide +kernel) (by decide +kernel)
set_option maxRecDepth 20000 in
theorem gX5_digest_X5_mixSquare : GoodIn wsX5_digest (wsV RX5 244 RX5 yX5_mixSquare wsX5_mixSquare) := goodIn_app (goodIn_of _ (by decide +kernel)) ggX5_digest_X5_mixSquare
set_option maxRecDepth 20000 in
theorem ggX5_digest_X5_mixLooks : GoodIn wsX5_digest wsX5_mixLooks := goodIn_r _ [131, 4, 13, 14, 15, 10, 16, 17, 18, 19, 20, 21, 22, 23, 24, 25, 26, 27, 28, 29, 30, 31, 32, 33, 34, 35, 56, 57, 58, 59, 60, 61, 62, 63, 86, 87, 88, 89, 90, 3, 132, 133, 134, 135, 136, 137, 138, 139, 140, 141, 142, 143, 144, 145, 146, 147, 184, 185, 186, 187, 188, 189, 190, 191, 192, 193, 194, 195, 196, 197, 198, 199, 200] (by decide +kernel) (by decide +kernel)
set_option maxRecDepth 20000 in
theorem gX5_digest_X5_mixLooks : GoodIn wsX5_digest (wsV RX5 248 RX5 yX5_mixLooks wsX5_mixLooks) := goodIn_app (goodIn_of _ (by decide +kernel)) ggX5_digest_X5_mixLooks
set_option maxRecDepth 20000 in
theorem ggX5_digest_X5_shaded : GoodIn wsX5_digest wsX5_shaded := goodIn_r _ [67, 4, 68, 69, 70, 10, 71, 72, 73, 74, 75, 76, 77, 78, 79, 80, 81, 20, 21, 22, 23, 184, 185, 186, 187, 188, 189, 190, 191, 192, 193, 194, 195, 196, 197, 198, 199, 200] (by decide +kernel) (by decide +kernel)
set_option maxRecDepth 20000 in
theorem gX5_digest_X5_shaded : GoodIn wsX5_digest (wsV RX5 190 RX5 yX5_shaded wsX5_shaded) := goodIn_app (goodIn_of _ (by decide +kernel)) ggX5_digest_X5_shaded
set_option maxRecDepth 20000 in
theorem ggX5_digest_X5_brightestNow : GoodIn wsX5_digest wsX5_brightestNow := goodIn_r _ [151, 64, 65, 66, 10, 67, 4, 68, 69, 70, 71, 72, 73, 74, 75, 76, 77, 78, 79, 80, 81, 20, 21, 22, 23, 184, 185, 186, 187, 188, 189, 190, 191, 192, 193, 194, 195, 196, 197, 198, 199, 200] (by decide +kernel) (by decide +kernel)
set_option maxRecDepth 20000 in
theorem gX5_digest_X5_brightestNow : GoodIn wsX5_digest (wsV RX5 205 RX5 yX5_brightestNow wsX5_brightestNow) := goodIn_app (goodIn_of _ (by decide +kernel)) ggX5_digest_X5_brightestNow
set_option maxRecDepth 20000 in
theorem ggX5_digest_X5_fewestAlike : GoodIn wsX5_digest wsX5_fewestAlike := goodIn_r _ [155, 4, 136, 137, 138, 10, 139, 140, 141, 142, 143, 20, 21, 22, 23, 184, 185, 186, 187, 188, 189, 190, 191, 192, 193, 194, 195, 196, 197, 198, 199, 200] (by decide +kernel) (by decide +kernel)
set_option maxRecDepth 20000 in
theorem gX5_digest_X5_fewestAlike : GoodIn wsX5_digest (wsV RX5 208 RX5 yX5_fewestAlike wsX5_fewestAlike) := goodIn_app (goodIn_of _ (by decide +kernel)) ggX5_digest_X5_fewestAlike
set_option maxRecDepth 20000 in
theorem ggX5_digest_X5_mostAlike : GoodIn wsX5_digest wsX5_mostAlike := goodIn_r _ [159, 4, 136, 137, 138, 10, 139, 140, 141, 142, 143, 20, 21, 22, 23, 184, 185, 186, 187, 188, 189, 190, 191, 192, 193, 194, 195, 196, 197, 198, 199, 200] (by decide +kernel) (by decide +kernel)
set_option maxRecDepth 20000 in
theorem gX5_digest_X5_mostAlike : GoodIn wsX5_digest (wsV RX5 211 RX5 yX5_mostAlike wsX5_mostAlike) := goodIn_app (goodIn_of _ (by decide +kernel)) ggX5_digest_X5_mostAlike
set_option maxRecDepth 20000 in
theorem ggX5_digest_X5_turnFor : GoodIn wsX5_digest wsX5_turnFor := goodIn_r _ [163, 112, 113, 114, 10, 115, 13, 14, 15, 16, 17, 18, 4, 19, 20, 21, 22, 23, 24, 25, 26, 27, 28, 29, 30, 31, 32, 33, 34, 35, 40, 41, 42, 43, 44, 45, 46, 47, 164, 165, 166, 167, 168, 169, 170, 171, 172, 116, 117, 118, 119, 184, 185, 186, 187, 188, 189, 190, 191, 192, 193, 194, 195, 196, 197, 198, 199, 200] (by decide +kernel) (by decide +kernel)
set_option maxRecDepth 20000 in
theorem gX5_digest_X5_turnFor : GoodIn wsX5_digest (wsV RX5 217 RX5 yX5_turnFor wsX5_turnFor) := goodIn_app (goodIn_of _ (by decide +kernel)) ggX5_digest_X5_turnFor
set_option maxRecDepth 20000 in
theorem ggX5_digest_X5_share : GoodIn wsX5_digest wsX5_share := goodIn_r _ [176, 36, 37, 38, 10, 39, 4, 112, 113, 114, 115, 13, 14, 15, 16, 17, 18, 19, 20, 21, 22, 23, 24, 25, 26, 27, 28, 29, 30, 31, 32, 33, 34, 35, 40, 41, 42, 43, 44, 45, 46, 47, 184, 185, 186, 187, 188, 189, 190, 191, 192, 193, 194, 195, 196, 197, 198, 199, 200] (by decide +kernel) (by decide +kernel)
set_option maxRecDepth 20000 in
theorem gX5_digest_X5_share : GoodIn wsX5_digest (wsV RX5 220 RX5 yX5_share wsX5_share) := goodIn_app (goodIn_of _ (by decide +kernel)) ggX5_digest_X5_share
set_option maxRecDepth 20000 in
theorem ggX5_digest_X5_bitsOf : GoodIn wsX5_digest wsX5_bitsOf := goodIn_r _ [179, 180, 181, 182, 183] (by decide +kernel) (by decide +kernel)
set_option maxRecDepth 20000 in
theorem gX5_digest_X5_bitsOf : GoodIn wsX5_digest (va_wsS RX5 251 yX5_bitsOf wsX5_bitsOf) := goodIn_app (goodIn_of _ (by decide +kernel)) ggX5_digest_X5_bitsOf
theorem dX5_digest_0 : decode cX5_digest 0 = .ok (.aload_n 0, 1) := by decide +kernel
theorem dX5_digest_1 : decode cX5_digest 1 = .ok (.iconst 0, 1) := by decide +kernel
theorem dX5_digest_2 : decode cX5_digest 2 = .ok (.putfield 47, 3) := by decide +kernel
theorem dX5_digest_5 : decode cX5_digest 5 = .ok (.aload_n 0, 1) := by decide +kernel
theorem dX5_digest_6 : decode cX5_digest 6 = .ok (.ldc2_w 242, 3) := by decide +kernel
theorem dX5_digest_9 : decode cX5_digest 9 = .ok (.putfield 234, 3) := by decide +kernel
theorem dX5_digest_12 : decode cX5_digest 12 = .ok (.iconst 0, 1) := by decide +kernel
theorem dX5_digest_13 : decode cX5_digest 13 = .ok (.istore_n 1, 1) := by decide +kernel
theorem dX5_digest_14 : decode cX5_digest 14 = .ok (.iload_n 1, 1) := by decide +kernel
theorem dX5_digest_15 : decode cX5_digest 15 = .ok (.bipush 12, 2) := by decide +kernel
theorem dX5_digest_17 : decode cX5_digest 17 = .ok (.if_icmp .gt 19, 3) := by decide +kernel
theorem dX5_digest_20 : decode cX5_digest 20 = .ok (.aload_n 0, 1) := by decide +kernel
theorem dX5_digest_21 : decode cX5_digest 21 = .ok (.aload_n 0, 1) := by decide +kernel
theorem dX5_digest_22 : decode cX5_digest 22 = .ok (.iload_n 1, 1) := by decide +kernel
theorem dX5_digest_23 : decode cX5_digest 23 = .ok (.invokevirtual 196, 3) := by decide +kernel
theorem dX5_digest_26 : decode cX5_digest 26 = .ok (.i2l, 1) := by decide +kernel
theorem dX5_digest_27 : decode cX5_digest 27 = .ok (.invokevirtual 238, 3) := by decide +kernel
theorem dX5_digest_30 : decode cX5_digest 30 = .ok (.iinc 1 1, 3) := by decide +kernel
theorem dX5_digest_33 : decode cX5_digest 33 = .ok (.goto (-19), 3) := by decide +kernel
theorem dX5_digest_36 : decode cX5_digest 36 = .ok (.iconst 0, 1) := by decide +kernel
theorem dX5_digest_37 : decode cX5_digest 37 = .ok (.istore_n 1, 1) := by decide +kernel
theorem dX5_digest_38 : decode cX5_digest 38 = .ok (.iload_n 1, 1) := by decide +kernel
theorem dX5_digest_39 : decode cX5_digest 39 = .ok (.aload_n 0, 1) := by decide +kernel
theorem dX5_digest_40 : decode cX5_digest 40 = .ok (.getfield 7, 3) := by decide +kernel
theorem dX5_digest_43 : decode cX5_digest 43 = .ok (.iconst 0, 1) := by decide +kernel
theorem dX5_digest_44 : decode cX5_digest 44 = .ok (.iaload, 1) := by decide +kernel
theorem dX5_digest_45 : decode cX5_digest 45 = .ok (.if_icmp .ge 33, 3) := by decide +kernel
theorem dX5_digest_48 : decode cX5_digest 48 = .ok (.iconst 0, 1) := by decide +kernel
theorem dX5_digest_49 : decode cX5_digest 49 = .ok (.istore_n 2, 1) := by decide +kernel
theorem dX5_digest_50 : decode cX5_digest 50 = .ok (.iload_n 2, 1) := by decide +kernel
theorem dX5_digest_51 : decode cX5_digest 51 = .ok (.aload_n 0, 1) := by decide +kernel
theorem dX5_digest_52 : decode cX5_digest 52 = .ok (.getfield 7, 3) := by decide +kernel
theorem dX5_digest_55 : decode cX5_digest 55 = .ok (.iconst 0, 1) := by decide +kernel
theorem dX5_digest_56 : decode cX5_digest 56 = .ok (.iaload, 1) := by decide +kernel
theorem dX5_digest_57 : decode cX5_digest 57 = .ok (.if_icmp .ge 15, 3) := by decide +kernel
theorem dX5_digest_60 : decode cX5_digest 60 = .ok (.aload_n 0, 1) := by decide +kernel
theorem dX5_digest_61 : decode cX5_digest 61 = .ok (.iload_n 2, 1) := by decide +kernel
theorem dX5_digest_62 : decode cX5_digest 62 = .ok (.iload_n 1, 1) := by decide +kernel
theorem dX5_digest_63 : decode cX5_digest 63 = .ok (.invokevirtual 244, 3) := by decide +kernel
theorem dX5_digest_66 : decode cX5_digest 66 = .ok (.iinc 2 1, 3) := by decide +kernel
theorem dX5_digest_69 : decode cX5_digest 69 = .ok (.goto (-19), 3) := by decide +kernel
theorem dX5_digest_72 : decode cX5_digest 72 = .ok (.iinc 1 1, 3) := by decide +kernel
theorem dX5_digest_75 : decode cX5_digest 75 = .ok (.goto (-37), 3) := by decide +kernel
theorem dX5_digest_78 : decode cX5_digest 78 = .ok (.aload_n 0, 1) := by decide +kernel
theorem dX5_digest_79 : decode cX5_digest 79 = .ok (.invokevirtual 248, 3) := by decide +kernel
theorem dX5_digest_82 : decode cX5_digest 82 = .ok (.iconst 0, 1) := by decide +kernel
theorem dX5_digest_83 : decode cX5_digest 83 = .ok (.istore_n 1, 1) := by decide +kernel
theorem dX5_digest_84 : decode cX5_digest 84 = .ok (.iload_n 1, 1) := by decide +kernel
theorem dX5_digest_85 : decode cX5_digest 85 = .ok (.bipush 8, 2) := by decide +kernel
theorem dX5_digest_87 : decode cX5_digest 87 = .ok (.if_icmp .ge 19, 3) := by decide +kernel
theorem dX5_digest_90 : decode cX5_digest 90 = .ok (.aload_n 0, 1) := by decide +kernel
theorem dX5_digest_91 : decode cX5_digest 91 = .ok (.aload_n 0, 1) := by decide +kernel
theorem dX5_digest_92 : decode cX5_digest 92 = .ok (.iload_n 1, 1) := by decide +kernel
theorem dX5_digest_93 : decode cX5_digest 93 = .ok (.invokevirtual 190, 3) := by decide +kernel
theorem dX5_digest_96 : decode cX5_digest 96 = .ok (.i2l, 1) := by decide +kernel
theorem dX5_digest_97 : decode cX5_digest 97 = .ok (.invokevirtual 238, 3) := by decide +kernel
theorem dX5_digest_100 : decode cX5_digest 100 = .ok (.iinc 1 1, 3) := by decide +kernel
theorem dX5_digest_103 : decode cX5_digest 103 = .ok (.goto (-19), 3) := by decide +kernel
theorem dX5_digest_106 : decode cX5_digest 106 = .ok (.aload_n 0, 1) := by decide +kernel
theorem dX5_digest_107 : decode cX5_digest 107 = .ok (.aload_n 0, 1) := by decide +kernel
theorem dX5_digest_108 : decode cX5_digest 108 = .ok (.invokevirtual 205, 3) := by decide +kernel
theorem dX5_digest_111 : decode cX5_digest 111 = .ok (.i2l, 1) := by decide +kernel
theorem dX5_digest_112 : decode cX5_digest 112 = .ok (.invokevirtual 238, 3) := by decide +kernel
theorem dX5_digest_115 : decode cX5_digest 115 = .ok (.aload_n 0, 1) := by decide +kernel
theorem dX5_digest_116 : decode cX5_digest 116 = .ok (.aload_n 0, 1) := by decide +kernel
theorem dX5_digest_117 : decode cX5_digest 117 = .ok (.invokevirtual 208, 3) := by decide +kernel
theorem dX5_digest_120 : decode cX5_digest 120 = .ok (.i2l, 1) := by decide +kernel
theorem dX5_digest_121 : decode cX5_digest 121 = .ok (.invokevirtual 238, 3) := by decide +kernel
theorem dX5_digest_124 : decode cX5_digest 124 = .ok (.aload_n 0, 1) := by decide +kernel
theorem dX5_digest_125 : decode cX5_digest 125 = .ok (.aload_n 0, 1) := by decide +kernel
theorem dX5_digest_126 : decode cX5_digest 126 = .ok (.invokevirtual 211, 3) := by decide +kernel
theorem dX5_digest_129 : decode cX5_digest 129 = .ok (.i2l, 1) := by decide +kernel
theorem dX5_digest_130 : decode cX5_digest 130 = .ok (.invokevirtual 238, 3) := by decide +kernel
theorem dX5_digest_133 : decode cX5_digest 133 = .ok (.aload_n 0, 1) := by decide +kernel
theorem dX5_digest_134 : decode cX5_digest 134 = .ok (.aload_n 0, 1) := by decide +kernel
theorem dX5_digest_135 : decode cX5_digest 135 = .ok (.invokevirtual 217, 3) := by decide +kernel
theorem dX5_digest_138 : decode cX5_digest 138 = .ok (.i2l, 1) := by decide +kernel
theorem dX5_digest_139 : decode cX5_digest 139 = .ok (.invokevirtual 238, 3) := by decide +kernel
theorem dX5_digest_142 : decode cX5_digest 142 = .ok (.aload_n 0, 1) := by decide +kernel
theorem dX5_digest_143 : decode cX5_digest 143 = .ok (.aload_n 0, 1) := by decide +kernel
theorem dX5_digest_144 : decode cX5_digest 144 = .ok (.invokevirtual 220, 3) := by decide +kernel
theorem dX5_digest_147 : decode cX5_digest 147 = .ok (.invokestatic 251, 3) := by decide +kernel
theorem dX5_digest_150 : decode cX5_digest 150 = .ok (.invokevirtual 238, 3) := by decide +kernel
theorem dX5_digest_153 : decode cX5_digest 153 = .ok (.aload_n 0, 1) := by decide +kernel
theorem dX5_digest_154 : decode cX5_digest 154 = .ok (.aload_n 0, 1) := by decide +kernel
theorem dX5_digest_155 : decode cX5_digest 155 = .ok (.getfield 120, 3) := by decide +kernel
theorem dX5_digest_158 : decode cX5_digest 158 = .ok (.i2l, 1) := by decide +kernel
theorem dX5_digest_159 : decode cX5_digest 159 = .ok (.invokevirtual 238, 3) := by decide +kernel
theorem dX5_digest_162 : decode cX5_digest 162 = .ok (.iconst 0, 1) := by decide +kernel
theorem dX5_digest_163 : decode cX5_digest 163 = .ok (.istore_n 1, 1) := by decide +kernel
theorem dX5_digest_164 : decode cX5_digest 164 = .ok (.iload_n 1, 1) := by decide +kernel
theorem dX5_digest_165 : decode cX5_digest 165 = .ok (.aload_n 0, 1) := by decide +kernel
theorem dX5_digest_166 : decode cX5_digest 166 = .ok (.getfield 120, 3) := by decide +kernel
theorem dX5_digest_169 : decode cX5_digest 169 = .ok (.if_icmp .ge 20, 3) := by decide +kernel
theorem dX5_digest_172 : decode cX5_digest 172 = .ok (.aload_n 0, 1) := by decide +kernel
theorem dX5_digest_173 : decode cX5_digest 173 = .ok (.aload_n 0, 1) := by decide +kernel
theorem dX5_digest_174 : decode cX5_digest 174 = .ok (.getfield 19, 3) := by decide +kernel
theorem dX5_digest_177 : decode cX5_digest 177 = .ok (.iload_n 1, 1) := by decide +kernel
theorem dX5_digest_178 : decode cX5_digest 178 = .ok (.iaload, 1) := by decide +kernel
theorem dX5_digest_179 : decode cX5_digest 179 = .ok (.i2l, 1) := by decide +kernel
theorem dX5_digest_180 : decode cX5_digest 180 = .ok (.invokevirtual 238, 3) := by decide +kernel
theorem dX5_digest_183 : decode cX5_digest 183 = .ok (.iinc 1 1, 3) := by decide +kernel
theorem dX5_digest_186 : decode cX5_digest 186 = .ok (.goto (-22), 3) := by decide +kernel
theorem dX5_digest_189 : decode cX5_digest 189 = .ok (.aload_n 0, 1) := by decide +kernel
theorem dX5_digest_190 : decode cX5_digest 190 = .ok (.getfield 234, 3) := by decide +kernel
theorem dX5_digest_193 : decode cX5_digest 193 = .ok (.lreturn, 1) := by decide +kernel
theorem dJ9_max_7cf53_0 : decode cJ9_max_7cf53 0 = .ok (.iload_n 0, 1) := by decide +kernel
theorem dJ9_max_7cf53_1 : decode cJ9_max_7cf53 1 = .ok (.iload_n 1, 1) := by decide +kernel
theorem dJ9_max_7cf53_2 : decode cJ9_max_7cf53 2 = .ok (.if_icmp .lt 7, 3) := by decide +kernel
theorem dJ9_max_7cf53_5 : decode cJ9_max_7cf53 5 = .ok (.iload_n 0, 1) := by decide +kernel
theorem dJ9_max_7cf53_6 : decode cJ9_max_7cf53 6 = .ok (.goto 4, 3) := by decide +kernel
theorem dJ9_max_7cf53_9 : decode cJ9_max_7cf53 9 = .ok (.iload_n 1, 1) := by decide +kernel
theorem dJ9_max_7cf53_10 : decode cJ9_max_7cf53 10 = .ok (.ireturn, 1) := by decide +kernel
theorem dJ9_min_7cf53_0 : decode cJ9_min_7cf53 0 = .ok (.iload_n 0, 1) := by decide +kernel
theorem dJ9_min_7cf53_1 : decode cJ9_min_7cf53 1 = .ok (.iload_n 1, 1) := by decide +kernel
theorem dJ9_min_7cf53_2 : decode cJ9_min_7cf53 2 = .ok (.if_icmp .gt 7, 3) := by decide +kernel
theorem dJ9_min_7cf53_5 : decode cJ9_min_7cf53 5 = .ok (.iload_n 0, 1) := by decide +kernel
theorem dJ9_min_7cf53_6 : decode cJ9_min_7cf53 6 = .ok (.goto 4, 3) := by decide +kernel
theorem dJ9_min_7cf53_9 : decode cJ9_min_7cf53 9 = .ok (.iload_n 1, 1) := by decide +kernel
theorem dJ9_min_7cf53_10 : decode cJ9_min_7cf53 10 = .ok (.ireturn, 1) := by decide +kernel
theorem dJ7_fill_53178_0 : decode cJ7_fill_53178 0 = .ok (.iconst 0, 1) := by decide +kernel
theorem dJ7_fill_53178_1 : decode cJ7_fill_53178 1 = .ok (.istore_n 2, 1) := by decide +kernel
theorem dJ7_fill_53178_2 : decode cJ7_fill_53178 2 = .ok (.aload_n 0, 1) := by decide +kernel
theorem dJ7_fill_53178_3 : decode cJ7_fill_53178 3 = .ok (.arraylength, 1) := by decide +kernel
theorem dJ7_fill_53178_4 : decode cJ7_fill_53178 4 = .ok (.istore_n 3, 1) := by decide +kernel
theorem dJ7_fill_53178_5 : decode cJ7_fill_53178 5 = .ok (.iload_n 2, 1) := by decide +kernel
theorem dJ7_fill_53178_6 : decode cJ7_fill_53178 6 = .ok (.iload_n 3, 1) := by decide +kernel
theorem dJ7_fill_53178_7 : decode cJ7_fill_53178 7 = .ok (.if_icmp .ge 13, 3) := by decide +kernel
theorem dJ7_fill_53178_10 : decode cJ7_fill_53178 10 = .ok (.aload_n 0, 1) := by decide +kernel
theorem dJ7_fill_53178_11 : decode cJ7_fill_53178 11 = .ok (.iload_n 2, 1) := by decide +kernel
theorem dJ7_fill_53178_12 : decode cJ7_fill_53178 12 = .ok (.iload_n 1, 1) := by decide +kernel
theorem dJ7_fill_53178_13 : decode cJ7_fill_53178 13 = .ok (.iastore, 1) := by decide +kernel
theorem dJ7_fill_53178_14 : decode cJ7_fill_53178 14 = .ok (.iinc 2 1, 3) := by decide +kernel
theorem dJ7_fill_53178_17 : decode cJ7_fill_53178 17 = .ok (.goto (-12), 3) := by decide +kernel
theorem dJ7_fill_53178_20 : decode cJ7_fill_53178 20 = .ok (.return_, 1) := by decide +kernel
set_option maxRecDepth 20000 in
theorem ggL_begin_X4_begin : GoodIn wsL_begin wsX4_begin := goodIn_ca (goodIn_r _ [6, 7, 8, 9, 5, 10, 11, 12, 13, 14, 15, 16, 17, 18, 19, 20, 21, 22, 23, 24, 25, 26, 27, 28, 29, 30, 31, 32, 33, 34, 35, 36, 37, 38, 39, 40, 41, 42, 43, 44, 45, 46, 47, 48, 49, 50, 51, 52, 53, 54, 55, 56, 57, 58, 59, 60, 61, 62, 63, 64, 65, 66] (by decide +kernel) (by decide +kernel)) (goodIn_sub (fun _ h => List.mem_cons_of_mem _ (List.mem_append_right _ h)) (by decide +kernel))
set_option maxRecDepth 20000 in
theorem gL_begin_X4_begin : GoodIn wsL_begin (wsV RL 7 RX4 yX4_begin wsX4_begin) := goodIn_app (goodIn_of _ (by decide +kernel)) ggL_begin_X4_begin
