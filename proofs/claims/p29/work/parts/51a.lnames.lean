theorem dL_cell_0 : decode cL_cell 0 = .ok (.iload_n 1, 1) := by decide +kernel
theorem dL_cell_1 : decode cL_cell 1 = .ok (.aload_n 0, 1) := by decide +kernel
theorem dL_cell_2 : decode cL_cell 2 = .ok (.arraylength, 1) := by decide +kernel
theorem dL_cell_3 : decode cL_cell 3 = .ok (.if_icmp .ge 9, 3) := by decide +kernel
theorem dL_cell_6 : decode cL_cell 6 = .ok (.aload_n 0, 1) := by decide +kernel
theorem dL_cell_7 : decode cL_cell 7 = .ok (.iload_n 1, 1) := by decide +kernel
theorem dL_cell_8 : decode cL_cell 8 = .ok (.iaload, 1) := by decide +kernel
theorem dL_cell_9 : decode cL_cell 9 = .ok (.goto 10, 3) := by decide +kernel
theorem dL_cell_12 : decode cL_cell 12 = .ok (.ldc 7, 2) := by decide +kernel
theorem dL_cell_14 : decode cL_cell 14 = .ok (.iload_n 1, 1) := by decide +kernel
theorem dL_cell_15 : decode cL_cell 15 = .ok (.imul, 1) := by decide +kernel
theorem dL_cell_16 : decode cL_cell 16 = .ok (.ldc 8, 2) := by decide +kernel
theorem dL_cell_18 : decode cL_cell 18 = .ok (.iadd, 1) := by decide +kernel
theorem dL_cell_19 : decode cL_cell 19 = .ok (.ireturn, 1) := by decide +kernel
theorem dL_low_0 : decode cL_low 0 = .ok (.iload_n 0, 1) := by decide +kernel
theorem dL_low_1 : decode cL_low 1 = .ok (.ldc 9, 2) := by decide +kernel
theorem dL_low_3 : decode cL_low 3 = .ok (.iand, 1) := by decide +kernel
theorem dL_low_4 : decode cL_low 4 = .ok (.iload_n 1, 1) := by decide +kernel
theorem dL_low_5 : decode cL_low 5 = .ok (.irem, 1) := by decide +kernel
theorem dL_low_6 : decode cL_low 6 = .ok (.ireturn, 1) := by decide +kernel
set_option maxRecDepth 20000 in
theorem ggL_build_L_cell : GoodIn wsL_build wsL_cell := goodIn_r _ [4, 5, 6] (by decide +kernel) (by decide +kernel)
set_option maxRecDepth 20000 in
theorem gL_build_L_cell : GoodIn wsL_build (va_wsS RL 10 yL_cell wsL_cell) := goodIn_app (goodIn_of _ (by decide +kernel)) ggL_build_L_cell
set_option maxRecDepth 20000 in
theorem ggL_build_L_low : GoodIn wsL_build wsL_low := goodIn_r _ [9, 10] (by decide +kernel) (by decide +kernel)
set_option maxRecDepth 20000 in
theorem gL_build_L_low : GoodIn wsL_build (va_wsS RL 16 yL_low wsL_low) := goodIn_app (goodIn_of _ (by decide +kernel)) ggL_build_L_low
set_option maxRecDepth 20000 in
theorem ggL_build_X4_begin : GoodIn wsL_build wsX4_begin := goodIn_ca (goodIn_r _ [15, 16, 17, 18, 14, 19, 20, 21, 22, 23, 24, 25, 26, 27, 28, 29, 30, 31, 32, 33, 34, 35, 36, 37, 38, 39, 40, 41, 42, 43, 44, 45, 46, 47, 48, 49, 50, 51, 52, 53, 54, 55, 56, 57, 58, 59, 60, 203, 204, 205, 206, 207, 208, 209, 210, 211, 212, 213, 214, 215, 216, 217] (by decide +kernel) (by decide +kernel)) (goodIn_sub (fun _ h => List.mem_cons_of_mem _ (List.mem_append_left _ (List.mem_append_left _ (List.mem_append_right _ h)))) (by decide +kernel))
set_option maxRecDepth 20000 in
theorem gL_build_X4_begin : GoodIn wsL_build (wsV RL 20 RX4 yX4_begin wsX4_begin) := goodIn_app (goodIn_of _ (by decide +kernel)) ggL_build_X4_begin
set_option maxRecDepth 20000 in
theorem ggL_build_X4_hour : GoodIn wsL_build wsX4_hour := goodIn_ca (goodIn_r _ [64, 16, 17, 18, 14, 19, 20, 21, 22, 23, 24, 25, 26, 27, 28, 29, 30, 31, 32, 33, 34, 35, 36, 37, 38, 39, 40, 41, 42, 43, 44, 45, 46, 47, 48, 49, 50, 51, 52, 203, 204, 205, 206, 207, 208, 209, 210, 214, 215, 216, 217, 211, 212, 213] (by decide +kernel) (by decide +kernel)) (goodIn_sub (fun _ h => List.mem_cons_of_mem _ (List.mem_append_left _ (List.mem_append_left _ (List.mem_append_right _ h)))) (by decide +kernel))
set_option maxRecDepth 20000 in
theorem gL_build_X4_hour : GoodIn wsL_build (wsV RL 26 RX4 yX4_hour wsX4_hour) := goodIn_app (goodIn_of _ (by decide +kernel)) ggL_build_X4_hour
set_option maxRecDepth 20000 in
theorem ggL_build_X4_put : GoodIn wsL_build wsX4_put := goodIn_ca (goodIn_ca (goodIn_ca (goodIn_r _ [68, 69, 70, 16, 71, 72, 73, 14, 74, 75, 76, 77, 78, 79, 43, 80, 81, 82, 83, 84, 45, 17, 18, 19, 20, 21, 85, 86, 87, 88, 47, 49, 50, 22, 23, 24, 25, 26, 27, 28, 29, 30, 31, 32, 33, 34, 35, 36, 37, 38, 39, 40, 41, 42, 44, 46, 48, 51, 52, 89, 90, 91, 92, 203, 204, 205, 206, 207, 208, 209, 210, 214, 215, 216, 217, 211, 212, 213] (by decide +kernel) (by decide +kernel)) (goodIn_sub (fun _ h => List.mem_cons_of_mem _ (List.mem_append_left _ (List.mem_append_right _ h))) (by decide +kernel))) (goodIn_sub (fun _ h => List.mem_cons_of_mem _ (List.mem_append_right _ h)) (by decide +kernel))) (goodIn_sub (fun _ h => List.mem_cons_of_mem _ (List.mem_append_left _ (List.mem_append_left _ (List.mem_append_right _ h)))) (by decide +kernel))
set_option maxRecDepth 20000 in
theorem gL_build_X4_put : GoodIn wsL_build (wsV RL 29 RX4 yX4_put wsX4_put) := goodIn_app (goodIn_of _ (by decide +kernel)) ggL_build_X4_put
set_option maxRecDepth 20000 in
theorem ggL_build_X4_count : GoodIn wsL_build wsX4_count := goodIn_ca (goodIn_r _ [96, 16, 26, 17, 18, 14, 19, 20, 21, 97, 98, 99, 43, 100, 45, 101, 102, 103, 104, 105, 106, 107, 108, 109, 86, 87, 88, 47, 81, 82, 83, 84, 49, 50, 110, 111, 112, 113, 27, 114, 115, 116, 117, 118, 119, 120, 121, 122, 58, 59, 60, 123, 124, 125, 126, 127, 128, 129, 130, 131, 132, 133, 134, 135, 136, 137, 138, 139, 140, 51, 52, 141, 142, 143, 144, 145, 146, 147, 148, 149, 150, 151, 152, 153, 154, 155, 156, 157, 158, 159, 160, 161, 162, 163, 164, 165, 166, 167, 168, 169, 170, 171, 172, 173, 174, 175, 176, 78, 79, 80, 177, 178, 179, 180, 181, 182, 183, 184, 185, 186, 187, 188, 189, 190, 191, 192, 193, 194, 195, 196, 197, 198, 199, 200, 201, 202, 48, 203, 204, 205, 206, 207, 208, 209, 210, 214, 215, 216, 217, 218, 219, 220, 221, 222, 223, 211, 212, 213] (by decide +kernel) (by decide +kernel)) (goodIn_sub (fun _ h => List.mem_cons_of_mem _ (List.mem_append_left _ (List.mem_append_left _ (List.mem_append_right _ h)))) (by decide +kernel))
set_option maxRecDepth 20000 in
theorem gL_build_X4_count : GoodIn wsL_build (wsV RL 33 RX4 yX4_count wsX4_count) := goodIn_app (goodIn_of _ (by decide +kernel)) ggL_build_X4_count
theorem dL_build_0 : decode cL_build 0 = .ok (.aload_n 1, 1) := by decide +kernel
theorem dL_build_1 : decode cL_build 1 = .ok (.iload_n 2, 1) := by decide +kernel
theorem dL_build_2 : decode cL_build 2 = .ok (.invokestatic 10, 3) := by decide +kernel
theorem dL_build_5 : decode cL_build 5 = .ok (.istore_n 3, 1) := by decide +kernel
theorem dL_build_6 : decode cL_build 6 = .ok (.iconst 2, 1) := by decide +kernel
theorem dL_build_7 : decode cL_build 7 = .ok (.iload_n 3, 1) := by decide +kernel
theorem dL_build_8 : decode cL_build 8 = .ok (.iconst 5, 1) := by decide +kernel
theorem dL_build_9 : decode cL_build 9 = .ok (.invokestatic 16, 3) := by decide +kernel
theorem dL_build_12 : decode cL_build 12 = .ok (.iadd, 1) := by decide +kernel
theorem dL_build_13 : decode cL_build 13 = .ok (.istore 4, 2) := by decide +kernel
theorem dL_build_15 : decode cL_build 15 = .ok (.aload_n 0, 1) := by decide +kernel
theorem dL_build_16 : decode cL_build 16 = .ok (.iload 4, 2) := by decide +kernel
theorem dL_build_18 : decode cL_build 18 = .ok (.invokevirtual 20, 3) := by decide +kernel
theorem dL_build_21 : decode cL_build 21 = .ok (.iload 4, 2) := by decide +kernel
theorem dL_build_23 : decode cL_build 23 = .ok (.iload 4, 2) := by decide +kernel
theorem dL_build_25 : decode cL_build 25 = .ok (.imul, 1) := by decide +kernel
theorem dL_build_26 : decode cL_build 26 = .ok (.if_icmp .ne 22, 3) := by decide +kernel
theorem dL_build_29 : decode cL_build 29 = .ok (.aload_n 0, 1) := by decide +kernel
theorem dL_build_30 : decode cL_build 30 = .ok (.iload_n 3, 1) := by decide +kernel
theorem dL_build_31 : decode cL_build 31 = .ok (.iconst 3, 1) := by decide +kernel
theorem dL_build_32 : decode cL_build 32 = .ok (.ishr, 1) := by decide +kernel
theorem dL_build_33 : decode cL_build 33 = .ok (.bipush 8, 2) := by decide +kernel
theorem dL_build_35 : decode cL_build 35 = .ok (.invokestatic 16, 3) := by decide +kernel
theorem dL_build_38 : decode cL_build 38 = .ok (.invokevirtual 26, 3) := by decide +kernel
theorem dL_build_41 : decode cL_build 41 = .ok (.ifCond .ne 7, 3) := by decide +kernel
theorem dL_build_44 : decode cL_build 44 = .ok (.iconst 1, 1) := by decide +kernel
theorem dL_build_45 : decode cL_build 45 = .ok (.goto 4, 3) := by decide +kernel
theorem dL_build_48 : decode cL_build 48 = .ok (.iconst 0, 1) := by decide +kernel
theorem dL_build_49 : decode cL_build 49 = .ok (.istore 5, 2) := by decide +kernel
theorem dL_build_51 : decode cL_build 51 = .ok (.iconst 1, 1) := by decide +kernel
theorem dL_build_52 : decode cL_build 52 = .ok (.iload_n 3, 1) := by decide +kernel
theorem dL_build_53 : decode cL_build 53 = .ok (.bipush 6, 2) := by decide +kernel
theorem dL_build_55 : decode cL_build 55 = .ok (.ishr, 1) := by decide +kernel
theorem dL_build_56 : decode cL_build 56 = .ok (.bipush 8, 2) := by decide +kernel
theorem dL_build_58 : decode cL_build 58 = .ok (.invokestatic 16, 3) := by decide +kernel
theorem dL_build_61 : decode cL_build 61 = .ok (.iadd, 1) := by decide +kernel
theorem dL_build_62 : decode cL_build 62 = .ok (.istore 6, 2) := by decide +kernel
theorem dL_build_64 : decode cL_build 64 = .ok (.iconst 0, 1) := by decide +kernel
theorem dL_build_65 : decode cL_build 65 = .ok (.istore 7, 2) := by decide +kernel
theorem dL_build_67 : decode cL_build 67 = .ok (.iload 7, 2) := by decide +kernel
theorem dL_build_69 : decode cL_build 69 = .ok (.iload 4, 2) := by decide +kernel
theorem dL_build_71 : decode cL_build 71 = .ok (.iload 4, 2) := by decide +kernel
theorem dL_build_73 : decode cL_build 73 = .ok (.imul, 1) := by decide +kernel
theorem dL_build_74 : decode cL_build 74 = .ok (.if_icmp .ge 115, 3) := by decide +kernel
theorem dL_build_77 : decode cL_build 77 = .ok (.iload 5, 2) := by decide +kernel
theorem dL_build_79 : decode cL_build 79 = .ok (.ifCond .eq 110, 3) := by decide +kernel
theorem dL_build_82 : decode cL_build 82 = .ok (.aload_n 1, 1) := by decide +kernel
theorem dL_build_83 : decode cL_build 83 = .ok (.iload_n 2, 1) := by decide +kernel
theorem dL_build_84 : decode cL_build 84 = .ok (.iconst 1, 1) := by decide +kernel
theorem dL_build_85 : decode cL_build 85 = .ok (.iadd, 1) := by decide +kernel
theorem dL_build_86 : decode cL_build 86 = .ok (.iload 7, 2) := by decide +kernel
theorem dL_build_88 : decode cL_build 88 = .ok (.iadd, 1) := by decide +kernel
theorem dL_build_89 : decode cL_build 89 = .ok (.invokestatic 10, 3) := by decide +kernel
theorem dL_build_92 : decode cL_build 92 = .ok (.istore 8, 2) := by decide +kernel
theorem dL_build_94 : decode cL_build 94 = .ok (.iload 8, 2) := by decide +kernel
theorem dL_build_96 : decode cL_build 96 = .ok (.iconst 3, 1) := by decide +kernel
theorem dL_build_97 : decode cL_build 97 = .ok (.invokestatic 16, 3) := by decide +kernel
theorem dL_build_100 : decode cL_build 100 = .ok (.ifCond .ne 7, 3) := by decide +kernel
theorem dL_build_103 : decode cL_build 103 = .ok (.iconst 0, 1) := by decide +kernel
theorem dL_build_104 : decode cL_build 104 = .ok (.goto 14, 3) := by decide +kernel
theorem dL_build_107 : decode cL_build 107 = .ok (.iload 8, 2) := by decide +kernel
theorem dL_build_109 : decode cL_build 109 = .ok (.iconst 2, 1) := by decide +kernel
theorem dL_build_110 : decode cL_build 110 = .ok (.ishr, 1) := by decide +kernel
theorem dL_build_111 : decode cL_build 111 = .ok (.iload 6, 2) := by decide +kernel
theorem dL_build_113 : decode cL_build 113 = .ok (.iconst 1, 1) := by decide +kernel
theorem dL_build_114 : decode cL_build 114 = .ok (.iadd, 1) := by decide +kernel
theorem dL_build_115 : decode cL_build 115 = .ok (.invokestatic 16, 3) := by decide +kernel
theorem dL_build_118 : decode cL_build 118 = .ok (.istore 9, 2) := by decide +kernel
theorem dL_build_120 : decode cL_build 120 = .ok (.iconst 0, 1) := by decide +kernel
theorem dL_build_121 : decode cL_build 121 = .ok (.istore 10, 2) := by decide +kernel
theorem dL_build_123 : decode cL_build 123 = .ok (.iload 10, 2) := by decide +kernel
theorem dL_build_125 : decode cL_build 125 = .ok (.iload 9, 2) := by decide +kernel
theorem dL_build_127 : decode cL_build 127 = .ok (.if_icmp .ge 56, 3) := by decide +kernel
theorem dL_build_130 : decode cL_build 130 = .ok (.iload 5, 2) := by decide +kernel
theorem dL_build_132 : decode cL_build 132 = .ok (.ifCond .eq 51, 3) := by decide +kernel
theorem dL_build_135 : decode cL_build 135 = .ok (.aload_n 0, 1) := by decide +kernel
theorem dL_build_136 : decode cL_build 136 = .ok (.iload 7, 2) := by decide +kernel
theorem dL_build_138 : decode cL_build 138 = .ok (.iload 4, 2) := by decide +kernel
theorem dL_build_140 : decode cL_build 140 = .ok (.irem, 1) := by decide +kernel
theorem dL_build_141 : decode cL_build 141 = .ok (.iload 7, 2) := by decide +kernel
theorem dL_build_143 : decode cL_build 143 = .ok (.iload 4, 2) := by decide +kernel
theorem dL_build_145 : decode cL_build 145 = .ok (.idiv, 1) := by decide +kernel
theorem dL_build_146 : decode cL_build 146 = .ok (.iload 8, 2) := by decide +kernel
theorem dL_build_148 : decode cL_build 148 = .ok (.bipush 6, 2) := by decide +kernel
theorem dL_build_150 : decode cL_build 150 = .ok (.iconst 2, 1) := by decide +kernel
theorem dL_build_151 : decode cL_build 151 = .ok (.iload 10, 2) := by decide +kernel
theorem dL_build_153 : decode cL_build 153 = .ok (.imul, 1) := by decide +kernel
theorem dL_build_154 : decode cL_build 154 = .ok (.iadd, 1) := by decide +kernel
theorem dL_build_155 : decode cL_build 155 = .ok (.ishr, 1) := by decide +kernel
theorem dL_build_156 : decode cL_build 156 = .ok (.iconst 4, 1) := by decide +kernel
theorem dL_build_157 : decode cL_build 157 = .ok (.invokestatic 16, 3) := by decide +kernel
theorem dL_build_160 : decode cL_build 160 = .ok (.invokevirtual 29, 3) := by decide +kernel
theorem dL_build_163 : decode cL_build 163 = .ok (.iload 10, 2) := by decide +kernel
theorem dL_build_165 : decode cL_build 165 = .ok (.iconst 1, 1) := by decide +kernel
theorem dL_build_166 : decode cL_build 166 = .ok (.iadd, 1) := by decide +kernel
theorem dL_build_167 : decode cL_build 167 = .ok (.if_icmp .ne 7, 3) := by decide +kernel
theorem dL_build_170 : decode cL_build 170 = .ok (.iconst 1, 1) := by decide +kernel
theorem dL_build_171 : decode cL_build 171 = .ok (.goto 4, 3) := by decide +kernel
theorem dL_build_174 : decode cL_build 174 = .ok (.iconst 0, 1) := by decide +kernel
theorem dL_build_175 : decode cL_build 175 = .ok (.istore 5, 2) := by decide +kernel
theorem dL_build_177 : decode cL_build 177 = .ok (.iinc 10 1, 3) := by decide +kernel
theorem dL_build_180 : decode cL_build 180 = .ok (.goto (-57), 3) := by decide +kernel
theorem dL_build_183 : decode cL_build 183 = .ok (.iinc 7 1, 3) := by decide +kernel
theorem dL_build_186 : decode cL_build 186 = .ok (.goto (-119), 3) := by decide +kernel
theorem dL_build_189 : decode cL_build 189 = .ok (.iload 5, 2) := by decide +kernel
theorem dL_build_191 : decode cL_build 191 = .ok (.ifCond .eq 34, 3) := by decide +kernel
theorem dL_build_194 : decode cL_build 194 = .ok (.aload_n 0, 1) := by decide +kernel
theorem dL_build_195 : decode cL_build 195 = .ok (.iconst 0, 1) := by decide +kernel
theorem dL_build_196 : decode cL_build 196 = .ok (.invokevirtual 33, 3) := by decide +kernel
theorem dL_build_199 : decode cL_build 199 = .ok (.iload 4, 2) := by decide +kernel
theorem dL_build_201 : decode cL_build 201 = .ok (.if_icmp .ne 24, 3) := by decide +kernel
theorem dL_build_204 : decode cL_build 204 = .ok (.aload_n 0, 1) := by decide +kernel
theorem dL_build_205 : decode cL_build 205 = .ok (.bipush 11, 2) := by decide +kernel
theorem dL_build_207 : decode cL_build 207 = .ok (.invokevirtual 33, 3) := by decide +kernel
theorem dL_build_210 : decode cL_build 210 = .ok (.iload_n 3, 1) := by decide +kernel
theorem dL_build_211 : decode cL_build 211 = .ok (.iconst 3, 1) := by decide +kernel
theorem dL_build_212 : decode cL_build 212 = .ok (.ishr, 1) := by decide +kernel
theorem dL_build_213 : decode cL_build 213 = .ok (.bipush 8, 2) := by decide +kernel
theorem dL_build_215 : decode cL_build 215 = .ok (.invokestatic 16, 3) := by decide +kernel
theorem dL_build_218 : decode cL_build 218 = .ok (.if_icmp .ne 7, 3) := by decide +kernel
theorem dL_build_221 : decode cL_build 221 = .ok (.iconst 1, 1) := by decide +kernel
theorem dL_build_222 : decode cL_build 222 = .ok (.goto 4, 3) := by decide +kernel
theorem dL_build_225 : decode cL_build 225 = .ok (.iconst 0, 1) := by decide +kernel
theorem dL_build_226 : decode cL_build 226 = .ok (.ireturn, 1) := by decide +kernel
set_option maxRecDepth 20000 in
theorem ggL_high_X4_stack : GoodIn wsL_high wsX4_stack := goodIn_ca (goodIn_ca (goodIn_r _ [5, 6, 7, 8, 9, 4, 10, 11, 12, 13, 14, 15, 16, 17, 18, 19, 20, 21, 22, 23, 24, 25, 26, 27, 28, 29, 30, 31, 32, 33, 34, 35, 36, 37, 38, 39, 40, 41, 42, 43, 44, 45, 46, 47, 48, 49, 50, 51, 52, 53, 54, 55, 56, 57, 58, 59, 60, 61, 62, 63, 64, 65, 66, 67, 68, 69, 70, 71, 72, 73, 74, 75, 76, 77, 78, 79, 80, 81, 82, 83, 84, 85, 86, 87, 88, 89, 90, 91, 92, 93, 94, 95, 96, 97, 98, 99, 100, 101, 102, 103, 104, 105, 106, 107, 108, 109, 110, 111, 112, 113, 114, 115, 116, 117, 118, 119, 120, 121, 122, 123, 124, 125, 126, 127, 128, 129, 130, 131, 132, 133, 134, 135] (by decide +kernel) (by decide +kernel)) (goodIn_sub (fun _ h => List.mem_cons_of_mem _ (List.mem_append_left _ (List.mem_append_right _ h))) (by decide +kernel))) (goodIn_sub (fun _ h => List.mem_cons_of_mem _ (List.mem_append_right _ h)) (by decide +kernel))
set_option maxRecDepth 20000 in
theorem gL_high_X4_stack : GoodIn wsL_high (wsV RL 36 RX4 yX4_stack wsX4_stack) := goodIn_app (goodIn_of _ (by decide +kernel)) ggL_high_X4_stack
theorem dL_high_0 : decode cL_high 0 = .ok (.iload_n 2, 1) := by decide +kernel
theorem dL_high_1 : decode cL_high 1 = .ok (.ifCond .lt 17, 3) := by decide +kernel
theorem dL_high_4 : decode cL_high 4 = .ok (.iload_n 3, 1) := by decide +kernel
theorem dL_high_5 : decode cL_high 5 = .ok (.ifCond .lt 13, 3) := by decide +kernel
theorem dL_high_8 : decode cL_high 8 = .ok (.iload_n 2, 1) := by decide +kernel
theorem dL_high_9 : decode cL_high 9 = .ok (.iload_n 1, 1) := by decide +kernel
theorem dL_high_10 : decode cL_high 10 = .ok (.if_icmp .ge 8, 3) := by decide +kernel
theorem dL_high_13 : decode cL_high 13 = .ok (.iload_n 3, 1) := by decide +kernel
theorem dL_high_14 : decode cL_high 14 = .ok (.iload_n 1, 1) := by decide +kernel
theorem dL_high_15 : decode cL_high 15 = .ok (.if_icmp .lt 7, 3) := by decide +kernel
theorem dL_high_18 : decode cL_high 18 = .ok (.iconst (-1), 1) := by decide +kernel
theorem dL_high_19 : decode cL_high 19 = .ok (.goto 10, 3) := by decide +kernel
theorem dL_high_22 : decode cL_high 22 = .ok (.aload_n 0, 1) := by decide +kernel
theorem dL_high_23 : decode cL_high 23 = .ok (.iload_n 2, 1) := by decide +kernel
theorem dL_high_24 : decode cL_high 24 = .ok (.iload_n 3, 1) := by decide +kernel
theorem dL_high_25 : decode cL_high 25 = .ok (.iconst 0, 1) := by decide +kernel
theorem dL_high_26 : decode cL_high 26 = .ok (.invokevirtual 36, 3) := by decide +kernel
theorem dL_high_29 : decode cL_high 29 = .ok (.ireturn, 1) := by decide +kernel
theorem dL_is_0 : decode cL_is 0 = .ok (.iload_n 2, 1) := by decide +kernel
theorem dL_is_1 : decode cL_is 1 = .ok (.ifCond .lt 39, 3) := by decide +kernel
theorem dL_is_4 : decode cL_is 4 = .ok (.iload_n 3, 1) := by decide +kernel
theorem dL_is_5 : decode cL_is 5 = .ok (.ifCond .lt 35, 3) := by decide +kernel
theorem dL_is_8 : decode cL_is 8 = .ok (.iload 4, 2) := by decide +kernel
theorem dL_is_10 : decode cL_is 10 = .ok (.ifCond .lt 30, 3) := by decide +kernel
theorem dL_is_13 : decode cL_is 13 = .ok (.iload_n 2, 1) := by decide +kernel
theorem dL_is_14 : decode cL_is 14 = .ok (.iload_n 1, 1) := by decide +kernel
theorem dL_is_15 : decode cL_is 15 = .ok (.if_icmp .ge 25, 3) := by decide +kernel
theorem dL_is_18 : decode cL_is 18 = .ok (.iload_n 3, 1) := by decide +kernel
theorem dL_is_19 : decode cL_is 19 = .ok (.iload_n 1, 1) := by decide +kernel
theorem dL_is_20 : decode cL_is 20 = .ok (.if_icmp .ge 20, 3) := by decide +kernel
theorem dL_is_23 : decode cL_is 23 = .ok (.aload_n 0, 1) := by decide +kernel
theorem dL_is_24 : decode cL_is 24 = .ok (.bipush 6, 2) := by decide +kernel
theorem dL_is_26 : decode cL_is 26 = .ok (.iload_n 3, 1) := by decide +kernel
theorem dL_is_27 : decode cL_is 27 = .ok (.imul, 1) := by decide +kernel
theorem dL_is_28 : decode cL_is 28 = .ok (.iload_n 2, 1) := by decide +kernel
theorem dL_is_29 : decode cL_is 29 = .ok (.iadd, 1) := by decide +kernel
theorem dL_is_30 : decode cL_is 30 = .ok (.iaload, 1) := by decide +kernel
theorem dL_is_31 : decode cL_is 31 = .ok (.iload 4, 2) := by decide +kernel
theorem dL_is_33 : decode cL_is 33 = .ok (.if_icmp .le 7, 3) := by decide +kernel
theorem dL_is_36 : decode cL_is 36 = .ok (.iconst 1, 1) := by decide +kernel
theorem dL_is_37 : decode cL_is 37 = .ok (.goto 4, 3) := by decide +kernel
theorem dL_is_40 : decode cL_is 40 = .ok (.iconst 0, 1) := by decide +kernel
theorem dL_is_41 : decode cL_is 41 = .ok (.ireturn, 1) := by decide +kernel
set_option maxRecDepth 20000 in
theorem ggL_nearest_L_is : GoodIn wsL_nearest wsL_is := goodIn_r _ [4] (by decide +kernel) (by decide +kernel)
set_option maxRecDepth 20000 in
theorem gL_nearest_L_is : GoodIn wsL_nearest (va_wsS RL 39 yL_is wsL_is) := goodIn_app (goodIn_of _ (by decide +kernel)) ggL_nearest_L_is
theorem dL_nearest_0 : decode cL_nearest 0 = .ok (.iconst (-1), 1) := by decide +kernel
theorem dL_nearest_1 : decode cL_nearest 1 = .ok (.istore 4, 2) := by decide +kernel
theorem dL_nearest_3 : decode cL_nearest 3 = .ok (.iconst 0, 1) := by decide +kernel
theorem dL_nearest_4 : decode cL_nearest 4 = .ok (.istore 5, 2) := by decide +kernel
theorem dL_nearest_6 : decode cL_nearest 6 = .ok (.iload 5, 2) := by decide +kernel
theorem dL_nearest_8 : decode cL_nearest 8 = .ok (.bipush 8, 2) := by decide +kernel
theorem dL_nearest_10 : decode cL_nearest 10 = .ok (.if_icmp .ge 36, 3) := by decide +kernel
theorem dL_nearest_13 : decode cL_nearest 13 = .ok (.aload_n 0, 1) := by decide +kernel
theorem dL_nearest_14 : decode cL_nearest 14 = .ok (.iload_n 1, 1) := by decide +kernel
theorem dL_nearest_15 : decode cL_nearest 15 = .ok (.iload_n 2, 1) := by decide +kernel
theorem dL_nearest_16 : decode cL_nearest 16 = .ok (.iload 5, 2) := by decide +kernel
theorem dL_nearest_18 : decode cL_nearest 18 = .ok (.iadd, 1) := by decide +kernel
theorem dL_nearest_19 : decode cL_nearest 19 = .ok (.iload_n 3, 1) := by decide +kernel
theorem dL_nearest_20 : decode cL_nearest 20 = .ok (.iload 5, 2) := by decide +kernel
theorem dL_nearest_22 : decode cL_nearest 22 = .ok (.iadd, 1) := by decide +kernel
theorem dL_nearest_23 : decode cL_nearest 23 = .ok (.iload 5, 2) := by decide +kernel
theorem dL_nearest_25 : decode cL_nearest 25 = .ok (.invokestatic 39, 3) := by decide +kernel
theorem dL_nearest_28 : decode cL_nearest 28 = .ok (.ifCond .eq 8, 3) := by decide +kernel
theorem dL_nearest_31 : decode cL_nearest 31 = .ok (.iload 5, 2) := by decide +kernel
theorem dL_nearest_33 : decode cL_nearest 33 = .ok (.goto 5, 3) := by decide +kernel
theorem dL_nearest_36 : decode cL_nearest 36 = .ok (.iload 4, 2) := by decide +kernel
theorem dL_nearest_38 : decode cL_nearest 38 = .ok (.istore 4, 2) := by decide +kernel
theorem dL_nearest_40 : decode cL_nearest 40 = .ok (.iinc 5 1, 3) := by decide +kernel
theorem dL_nearest_43 : decode cL_nearest 43 = .ok (.goto (-37), 3) := by decide +kernel
theorem dL_nearest_46 : decode cL_nearest 46 = .ok (.iload 4, 2) := by decide +kernel
theorem dL_nearest_48 : decode cL_nearest 48 = .ok (.ireturn, 1) := by decide +kernel
set_option maxRecDepth 20000 in
theorem ggL_seen_L_nearest : GoodIn wsL_seen wsL_nearest := goodIn_r _ [4, 5, 6, 3, 7] (by decide +kernel) (by decide +kernel)
set_option maxRecDepth 20000 in
theorem gL_seen_L_nearest : GoodIn wsL_seen (va_wsS RL 43 yL_nearest wsL_nearest) := goodIn_app (goodIn_of _ (by decide +kernel)) ggL_seen_L_nearest
theorem dL_seen_0 : decode cL_seen 0 = .ok (.iconst (-1), 1) := by decide +kernel
theorem dL_seen_1 : decode cL_seen 1 = .ok (.istore 6, 2) := by decide +kernel
theorem dL_seen_3 : decode cL_seen 3 = .ok (.iconst (-1), 1) := by decide +kernel
theorem dL_seen_4 : decode cL_seen 4 = .ok (.istore 7, 2) := by decide +kernel
theorem dL_seen_6 : decode cL_seen 6 = .ok (.iconst 0, 1) := by decide +kernel
theorem dL_seen_7 : decode cL_seen 7 = .ok (.istore 8, 2) := by decide +kernel
theorem dL_seen_9 : decode cL_seen 9 = .ok (.iload 8, 2) := by decide +kernel
theorem dL_seen_11 : decode cL_seen 11 = .ok (.iconst 3, 1) := by decide +kernel
theorem dL_seen_12 : decode cL_seen 12 = .ok (.if_icmp .ge 131, 3) := by decide +kernel
theorem dL_seen_15 : decode cL_seen 15 = .ok (.iload 8, 2) := by decide +kernel
theorem dL_seen_17 : decode cL_seen 17 = .ok (.ifCond .eq 14, 3) := by decide +kernel
theorem dL_seen_20 : decode cL_seen 20 = .ok (.iload 8, 2) := by decide +kernel
theorem dL_seen_22 : decode cL_seen 22 = .ok (.iconst 2, 1) := by decide +kernel
theorem dL_seen_23 : decode cL_seen 23 = .ok (.if_icmp .ne 14, 3) := by decide +kernel
theorem dL_seen_26 : decode cL_seen 26 = .ok (.iload 4, 2) := by decide +kernel
theorem dL_seen_28 : decode cL_seen 28 = .ok (.ifCond .ne 9, 3) := by decide +kernel
theorem dL_seen_31 : decode cL_seen 31 = .ok (.iload_n 2, 1) := by decide +kernel
theorem dL_seen_32 : decode cL_seen 32 = .ok (.iconst 1, 1) := by decide +kernel
theorem dL_seen_33 : decode cL_seen 33 = .ok (.iadd, 1) := by decide +kernel
theorem dL_seen_34 : decode cL_seen 34 = .ok (.goto 4, 3) := by decide +kernel
theorem dL_seen_37 : decode cL_seen 37 = .ok (.iload_n 2, 1) := by decide +kernel
theorem dL_seen_38 : decode cL_seen 38 = .ok (.istore 9, 2) := by decide +kernel
theorem dL_seen_40 : decode cL_seen 40 = .ok (.iload 8, 2) := by decide +kernel
theorem dL_seen_42 : decode cL_seen 42 = .ok (.ifCond .eq 15, 3) := by decide +kernel
theorem dL_seen_45 : decode cL_seen 45 = .ok (.iload 8, 2) := by decide +kernel
theorem dL_seen_47 : decode cL_seen 47 = .ok (.iconst 1, 1) := by decide +kernel
theorem dL_seen_48 : decode cL_seen 48 = .ok (.if_icmp .ne 15, 3) := by decide +kernel
theorem dL_seen_51 : decode cL_seen 51 = .ok (.iload 4, 2) := by decide +kernel
theorem dL_seen_53 : decode cL_seen 53 = .ok (.iconst 1, 1) := by decide +kernel
theorem dL_seen_54 : decode cL_seen 54 = .ok (.if_icmp .ne 9, 3) := by decide +kernel
theorem dL_seen_57 : decode cL_seen 57 = .ok (.iload_n 3, 1) := by decide +kernel
theorem dL_seen_58 : decode cL_seen 58 = .ok (.iconst 1, 1) := by decide +kernel
theorem dL_seen_59 : decode cL_seen 59 = .ok (.iadd, 1) := by decide +kernel
theorem dL_seen_60 : decode cL_seen 60 = .ok (.goto 4, 3) := by decide +kernel
theorem dL_seen_63 : decode cL_seen 63 = .ok (.iload_n 3, 1) := by decide +kernel
theorem dL_seen_64 : decode cL_seen 64 = .ok (.istore 10, 2) := by decide +kernel
theorem dL_seen_66 : decode cL_seen 66 = .ok (.aload_n 0, 1) := by decide +kernel
theorem dL_seen_67 : decode cL_seen 67 = .ok (.iload_n 1, 1) := by decide +kernel
theorem dL_seen_68 : decode cL_seen 68 = .ok (.iload 9, 2) := by decide +kernel
theorem dL_seen_70 : decode cL_seen 70 = .ok (.iload 10, 2) := by decide +kernel
theorem dL_seen_72 : decode cL_seen 72 = .ok (.invokestatic 43, 3) := by decide +kernel
theorem dL_seen_75 : decode cL_seen 75 = .ok (.istore 11, 2) := by decide +kernel
theorem dL_seen_77 : decode cL_seen 77 = .ok (.iload 11, 2) := by decide +kernel
theorem dL_seen_79 : decode cL_seen 79 = .ok (.ifCond .ge 7, 3) := by decide +kernel
theorem dL_seen_82 : decode cL_seen 82 = .ok (.iconst (-1), 1) := by decide +kernel
theorem dL_seen_83 : decode cL_seen 83 = .ok (.goto 13, 3) := by decide +kernel
theorem dL_seen_86 : decode cL_seen 86 = .ok (.iload 9, 2) := by decide +kernel
theorem dL_seen_88 : decode cL_seen 88 = .ok (.iload 10, 2) := by decide +kernel
theorem dL_seen_90 : decode cL_seen 90 = .ok (.iadd, 1) := by decide +kernel
theorem dL_seen_91 : decode cL_seen 91 = .ok (.iconst 3, 1) := by decide +kernel
theorem dL_seen_92 : decode cL_seen 92 = .ok (.iload 11, 2) := by decide +kernel
theorem dL_seen_94 : decode cL_seen 94 = .ok (.imul, 1) := by decide +kernel
theorem dL_seen_95 : decode cL_seen 95 = .ok (.iadd, 1) := by decide +kernel
theorem dL_seen_96 : decode cL_seen 96 = .ok (.istore 12, 2) := by decide +kernel
theorem dL_seen_98 : decode cL_seen 98 = .ok (.iload 12, 2) := by decide +kernel
theorem dL_seen_100 : decode cL_seen 100 = .ok (.iload 7, 2) := by decide +kernel
theorem dL_seen_102 : decode cL_seen 102 = .ok (.if_icmp .le 35, 3) := by decide +kernel
theorem dL_seen_105 : decode cL_seen 105 = .ok (.iload 12, 2) := by decide +kernel
theorem dL_seen_107 : decode cL_seen 107 = .ok (.istore 7, 2) := by decide +kernel
theorem dL_seen_109 : decode cL_seen 109 = .ok (.iload 8, 2) := by decide +kernel
theorem dL_seen_111 : decode cL_seen 111 = .ok (.istore 6, 2) := by decide +kernel
theorem dL_seen_113 : decode cL_seen 113 = .ok (.aload 5, 2) := by decide +kernel
theorem dL_seen_115 : decode cL_seen 115 = .ok (.iconst 0, 1) := by decide +kernel
theorem dL_seen_116 : decode cL_seen 116 = .ok (.iload 9, 2) := by decide +kernel
theorem dL_seen_118 : decode cL_seen 118 = .ok (.iload 11, 2) := by decide +kernel
theorem dL_seen_120 : decode cL_seen 120 = .ok (.iadd, 1) := by decide +kernel
theorem dL_seen_121 : decode cL_seen 121 = .ok (.iastore, 1) := by decide +kernel
theorem dL_seen_122 : decode cL_seen 122 = .ok (.aload 5, 2) := by decide +kernel
theorem dL_seen_124 : decode cL_seen 124 = .ok (.iconst 1, 1) := by decide +kernel
theorem dL_seen_125 : decode cL_seen 125 = .ok (.iload 10, 2) := by decide +kernel
theorem dL_seen_127 : decode cL_seen 127 = .ok (.iload 11, 2) := by decide +kernel
theorem dL_seen_129 : decode cL_seen 129 = .ok (.iadd, 1) := by decide +kernel
theorem dL_seen_130 : decode cL_seen 130 = .ok (.iastore, 1) := by decide +kernel
theorem dL_seen_131 : decode cL_seen 131 = .ok (.aload 5, 2) := by decide +kernel
theorem dL_seen_133 : decode cL_seen 133 = .ok (.iconst 2, 1) := by decide +kernel
theorem dL_seen_134 : decode cL_seen 134 = .ok (.iload 11, 2) := by decide +kernel
theorem dL_seen_136 : decode cL_seen 136 = .ok (.iastore, 1) := by decide +kernel
theorem dL_seen_137 : decode cL_seen 137 = .ok (.iinc 8 1, 3) := by decide +kernel
theorem dL_seen_140 : decode cL_seen 140 = .ok (.goto (-131), 3) := by decide +kernel
theorem dL_seen_143 : decode cL_seen 143 = .ok (.iload 6, 2) := by decide +kernel
theorem dL_seen_145 : decode cL_seen 145 = .ok (.ireturn, 1) := by decide +kernel
set_option maxRecDepth 20000 in
theorem ggL_lay_X4_stack : GoodIn wsL_lay wsX4_stack := goodIn_ca (goodIn_ca (goodIn_r _ [5, 6, 7, 8, 9, 4, 10, 11, 12, 13, 14, 15, 16, 17, 18, 19, 20, 21, 22, 23, 24, 25, 26, 27, 28, 29, 30, 31, 32, 33, 34, 35, 36, 37, 38, 39, 40, 41, 42, 43, 44, 45, 46, 47, 48, 49, 50, 51, 52, 53, 54, 55, 56, 57, 58, 59, 60, 61, 62, 63, 64, 65, 66, 67, 68, 69, 70, 71, 72, 73, 74, 75, 76, 77, 78, 79, 80, 81, 82, 83, 84, 85, 86, 87, 88, 89, 90, 91, 92, 93, 94, 95, 96, 97, 98, 99, 100, 101, 102, 103, 104, 105, 106, 107, 108, 109, 110, 111, 112, 113, 114, 115, 116, 117, 118, 119, 120, 121, 122, 123, 124, 125, 126, 127, 128, 129, 130, 131, 132, 133, 134, 135] (by decide +kernel) (by decide +kernel)) (goodIn_sub (fun _ h => List.mem_cons_of_mem _ (List.mem_append_left _ (List.mem_append_right _ h))) (by decide +kernel))) (goodIn_sub (fun _ h => List.mem_cons_of_mem _ (List.mem_append_right _ h)) (by decide +kernel))
set_option maxRecDepth 20000 in
theorem gL_lay_X4_stack : GoodIn wsL_lay (wsV RL 36 RX4 yX4_stack wsX4_stack) := goodIn_app (goodIn_of _ (by decide +kernel)) ggL_lay_X4_stack
theorem dL_lay_0 : decode cL_lay 0 = .ok (.iconst 0, 1) := by decide +kernel
theorem dL_lay_1 : decode cL_lay 1 = .ok (.istore_n 3, 1) := by decide +kernel
theorem dL_lay_2 : decode cL_lay 2 = .ok (.iload_n 3, 1) := by decide +kernel
theorem dL_lay_3 : decode cL_lay 3 = .ok (.iload_n 2, 1) := by decide +kernel
theorem dL_lay_4 : decode cL_lay 4 = .ok (.if_icmp .ge 41, 3) := by decide +kernel
theorem dL_lay_7 : decode cL_lay 7 = .ok (.iconst 0, 1) := by decide +kernel
theorem dL_lay_8 : decode cL_lay 8 = .ok (.istore 4, 2) := by decide +kernel
theorem dL_lay_10 : decode cL_lay 10 = .ok (.iload 4, 2) := by decide +kernel
theorem dL_lay_12 : decode cL_lay 12 = .ok (.iload_n 2, 1) := by decide +kernel
theorem dL_lay_13 : decode cL_lay 13 = .ok (.if_icmp .ge 26, 3) := by decide +kernel
theorem dL_lay_16 : decode cL_lay 16 = .ok (.aload_n 1, 1) := by decide +kernel
theorem dL_lay_17 : decode cL_lay 17 = .ok (.bipush 6, 2) := by decide +kernel
theorem dL_lay_19 : decode cL_lay 19 = .ok (.iload_n 3, 1) := by decide +kernel
theorem dL_lay_20 : decode cL_lay 20 = .ok (.imul, 1) := by decide +kernel
theorem dL_lay_21 : decode cL_lay 21 = .ok (.iload 4, 2) := by decide +kernel
theorem dL_lay_23 : decode cL_lay 23 = .ok (.iadd, 1) := by decide +kernel
theorem dL_lay_24 : decode cL_lay 24 = .ok (.aload_n 0, 1) := by decide +kernel
theorem dL_lay_25 : decode cL_lay 25 = .ok (.iload 4, 2) := by decide +kernel
theorem dL_lay_27 : decode cL_lay 27 = .ok (.iload_n 3, 1) := by decide +kernel
theorem dL_lay_28 : decode cL_lay 28 = .ok (.iconst 0, 1) := by decide +kernel
theorem dL_lay_29 : decode cL_lay 29 = .ok (.invokevirtual 36, 3) := by decide +kernel
theorem dL_lay_32 : decode cL_lay 32 = .ok (.iastore, 1) := by decide +kernel
theorem dL_lay_33 : decode cL_lay 33 = .ok (.iinc 4 1, 3) := by decide +kernel
theorem dL_lay_36 : decode cL_lay 36 = .ok (.goto (-26), 3) := by decide +kernel
theorem dL_lay_39 : decode cL_lay 39 = .ok (.iinc 3 1, 3) := by decide +kernel
theorem dL_lay_42 : decode cL_lay 42 = .ok (.goto (-40), 3) := by decide +kernel
theorem dL_lay_45 : decode cL_lay 45 = .ok (.return_, 1) := by decide +kernel
set_option maxRecDepth 20000 in
theorem ggL_isPicture_L_low : GoodIn wsL_isPicture wsL_low := goodIn_r _ [5, 6] (by decide +kernel) (by decide +kernel)
set_option maxRecDepth 20000 in
theorem gL_isPicture_L_low : GoodIn wsL_isPicture (va_wsS RL 16 yL_low wsL_low) := goodIn_app (goodIn_of _ (by decide +kernel)) ggL_isPicture_L_low
set_option maxRecDepth 20000 in
theorem ggL_isPicture_L_seen : GoodIn wsL_isPicture wsL_seen := goodIn_r _ [9, 10, 11, 4, 12, 13, 14, 15] (by decide +kernel) (by decide +kernel)
set_option maxRecDepth 20000 in
theorem gL_isPicture_L_seen : GoodIn wsL_isPicture (va_wsS RL 47 yL_seen wsL_seen) := goodIn_app (goodIn_of _ (by decide +kernel)) ggL_isPicture_L_seen
set_option maxRecDepth 20000 in
theorem ggL_isPicture_X4_picture : GoodIn wsL_isPicture wsX4_picture := goodIn_ca (goodIn_r _ [20, 21, 22, 23, 19, 24, 25, 26, 27, 28, 29, 30, 31, 32, 33, 34, 35, 36, 37, 38, 39, 40, 41, 42, 43, 44, 45, 46, 47, 48, 49, 50, 51, 52, 53, 54, 55, 56, 57, 58, 59, 60, 61, 62, 63, 64, 65, 66, 67, 68, 69, 70, 71, 72, 73, 74, 75, 76, 77, 78, 79, 80, 81, 82, 83, 84, 85, 86, 87, 88, 89, 90, 91, 92, 93, 94, 95, 96, 97, 98, 99, 100, 101, 102, 103, 104, 105, 106, 107, 108, 109, 110, 111, 112, 113, 114, 115, 116, 117, 118, 181, 182, 183, 184, 185, 186, 187, 188, 189, 190, 191, 192, 193, 194, 195, 196, 197, 198] (by decide +kernel) (by decide +kernel)) (goodIn_sub (fun _ h => List.mem_cons_of_mem _ (List.mem_append_left _ (List.mem_append_right _ h))) (by decide +kernel))
set_option maxRecDepth 20000 in
theorem gL_isPicture_X4_picture : GoodIn wsL_isPicture (wsV RL 51 RX4 yX4_picture wsX4_picture) := goodIn_app (goodIn_of _ (by decide +kernel)) ggL_isPicture_X4_picture
set_option maxRecDepth 20000 in
theorem ggL_isPicture_X4_block : GoodIn wsL_isPicture wsX4_block := goodIn_ca (goodIn_ca (goodIn_r _ [122, 21, 123, 124, 125, 19, 126, 127, 128, 129, 130, 131, 47, 132, 50, 51, 52, 53, 54, 22, 23, 24, 25, 26, 133, 45, 46, 48, 49, 55, 56, 113, 114, 115, 116, 117, 118, 134, 76, 77, 27, 28, 29, 30, 31, 32, 33, 34, 35, 36, 37, 38, 39, 40, 41, 42, 43, 44, 57, 58, 59, 60, 61, 62, 63, 64, 65, 66, 67, 68, 69, 70, 71, 72, 73, 74, 75, 78, 79, 80, 81, 82, 83, 84, 85, 86, 87, 88, 89, 90, 91, 92, 93, 94, 95, 96, 97, 98, 99, 100, 101, 102, 135, 136, 137, 181, 182, 183, 184, 185, 186, 187, 188, 195, 196, 197, 198, 189, 190, 191, 192, 193, 194] (by decide +kernel) (by decide +kernel)) (goodIn_sub (fun _ h => List.mem_cons_of_mem _ (List.mem_append_right _ h)) (by decide +kernel))) (goodIn_sub (fun _ h => List.mem_cons_of_mem _ (List.mem_append_left _ (List.mem_append_right _ h))) (by decide +kernel))
set_option maxRecDepth 20000 in
theorem gL_isPicture_X4_block : GoodIn wsL_isPicture (wsV RL 55 RX4 yX4_block wsX4_block) := goodIn_app (goodIn_of _ (by decide +kernel)) ggL_isPicture_X4_block
set_option maxRecDepth 20000 in
theorem ggL_isPicture_X4_count : GoodIn wsL_isPicture wsX4_count := goodIn_ca (goodIn_r _ [141, 21, 142, 22, 23, 19, 24, 25, 26, 143, 144, 145, 47, 146, 54, 147, 148, 149, 150, 151, 152, 153, 154, 118, 45, 46, 48, 49, 50, 51, 52, 53, 55, 56, 27, 28, 29, 30, 31, 32, 33, 34, 35, 36, 37, 38, 39, 40, 41, 42, 43, 44, 57, 58, 59, 60, 61, 62, 63, 64, 65, 66, 67, 68, 69, 70, 71, 72, 73, 74, 75, 76, 77, 78, 79, 80, 81, 82, 83, 84, 85, 86, 87, 88, 89, 90, 91, 92, 93, 94, 95, 96, 97, 98, 99, 100, 101, 102, 155, 156, 157, 158, 159, 160, 161, 162, 163, 130, 131, 132, 164, 165, 166, 167, 168, 169, 170, 171, 172, 173, 174, 175, 176, 177, 178, 179, 105, 106, 108, 109, 111, 112, 180, 114, 115, 116, 117, 181, 182, 183, 184, 185, 186, 187, 188, 195, 196, 197, 198, 189, 190, 191, 192, 193, 194, 199, 200, 201] (by decide +kernel) (by decide +kernel)) (goodIn_sub (fun _ h => List.mem_cons_of_mem _ (List.mem_append_left _ (List.mem_append_right _ h))) (by decide +kernel))
set_option maxRecDepth 20000 in
theorem gL_isPicture_X4_count : GoodIn wsL_isPicture (wsV RL 33 RX4 yX4_count wsX4_count) := goodIn_app (goodIn_of _ (by decide +kernel)) ggL_isPicture_X4_count
set_option maxRecDepth 20000 in
theorem ggL_isPicture_L_is : GoodIn wsL_isPicture wsL_is := goodIn_r _ [15] (by decide +kernel) (by decide +kernel)
set_option maxRecDepth 20000 in
theorem gL_isPicture_L_is : GoodIn wsL_isPicture (va_wsS RL 39 yL_is wsL_is) := goodIn_app (goodIn_of _ (by decide +kernel)) ggL_isPicture_L_is
theorem dL_isPicture_0 : decode cL_isPicture 0 = .ok (.iconst 3, 1) := by decide +kernel
theorem dL_isPicture_1 : decode cL_isPicture 1 = .ok (.newarray .int, 2) := by decide +kernel
theorem dL_isPicture_3 : decode cL_isPicture 3 = .ok (.astore 4, 2) := by decide +kernel
theorem dL_isPicture_5 : decode cL_isPicture 5 = .ok (.iconst 4, 1) := by decide +kernel
theorem dL_isPicture_6 : decode cL_isPicture 6 = .ok (.newarray .int, 2) := by decide +kernel
theorem dL_isPicture_8 : decode cL_isPicture 8 = .ok (.astore 5, 2) := by decide +kernel
theorem dL_isPicture_10 : decode cL_isPicture 10 = .ok (.iconst 0, 1) := by decide +kernel
theorem dL_isPicture_11 : decode cL_isPicture 11 = .ok (.istore 6, 2) := by decide +kernel
theorem dL_isPicture_13 : decode cL_isPicture 13 = .ok (.iload_n 3, 1) := by decide +kernel
theorem dL_isPicture_14 : decode cL_isPicture 14 = .ok (.iload_n 2, 1) := by decide +kernel
theorem dL_isPicture_15 : decode cL_isPicture 15 = .ok (.invokestatic 16, 3) := by decide +kernel
theorem dL_isPicture_18 : decode cL_isPicture 18 = .ok (.istore 7, 2) := by decide +kernel
theorem dL_isPicture_20 : decode cL_isPicture 20 = .ok (.iload_n 3, 1) := by decide +kernel
theorem dL_isPicture_21 : decode cL_isPicture 21 = .ok (.iconst 3, 1) := by decide +kernel
theorem dL_isPicture_22 : decode cL_isPicture 22 = .ok (.ishr, 1) := by decide +kernel
theorem dL_isPicture_23 : decode cL_isPicture 23 = .ok (.iload_n 2, 1) := by decide +kernel
theorem dL_isPicture_24 : decode cL_isPicture 24 = .ok (.invokestatic 16, 3) := by decide +kernel
theorem dL_isPicture_27 : decode cL_isPicture 27 = .ok (.istore 8, 2) := by decide +kernel
theorem dL_isPicture_29 : decode cL_isPicture 29 = .ok (.iload_n 3, 1) := by decide +kernel
theorem dL_isPicture_30 : decode cL_isPicture 30 = .ok (.bipush 6, 2) := by decide +kernel
theorem dL_isPicture_32 : decode cL_isPicture 32 = .ok (.ishr, 1) := by decide +kernel
theorem dL_isPicture_33 : decode cL_isPicture 33 = .ok (.bipush 8, 2) := by decide +kernel
theorem dL_isPicture_35 : decode cL_isPicture 35 = .ok (.invokestatic 16, 3) := by decide +kernel
theorem dL_isPicture_38 : decode cL_isPicture 38 = .ok (.istore 9, 2) := by decide +kernel
theorem dL_isPicture_40 : decode cL_isPicture 40 = .ok (.iconst 3, 1) := by decide +kernel
theorem dL_isPicture_41 : decode cL_isPicture 41 = .ok (.newarray .int, 2) := by decide +kernel
theorem dL_isPicture_43 : decode cL_isPicture 43 = .ok (.astore 10, 2) := by decide +kernel
theorem dL_isPicture_45 : decode cL_isPicture 45 = .ok (.iconst 0, 1) := by decide +kernel
theorem dL_isPicture_46 : decode cL_isPicture 46 = .ok (.istore 11, 2) := by decide +kernel
theorem dL_isPicture_48 : decode cL_isPicture 48 = .ok (.iload 11, 2) := by decide +kernel
theorem dL_isPicture_50 : decode cL_isPicture 50 = .ok (.sipush 512, 3) := by decide +kernel
theorem dL_isPicture_53 : decode cL_isPicture 53 = .ok (.if_icmp .ge 290, 3) := by decide +kernel
theorem dL_isPicture_56 : decode cL_isPicture 56 = .ok (.iload 11, 2) := by decide +kernel
theorem dL_isPicture_58 : decode cL_isPicture 58 = .ok (.bipush 32, 2) := by decide +kernel
theorem dL_isPicture_60 : decode cL_isPicture 60 = .ok (.idiv, 1) := by decide +kernel
theorem dL_isPicture_61 : decode cL_isPicture 61 = .ok (.bipush 9, 2) := by decide +kernel
theorem dL_isPicture_63 : decode cL_isPicture 63 = .ok (.isub, 1) := by decide +kernel
theorem dL_isPicture_64 : decode cL_isPicture 64 = .ok (.istore 12, 2) := by decide +kernel
theorem dL_isPicture_66 : decode cL_isPicture 66 = .ok (.iload 11, 2) := by decide +kernel
theorem dL_isPicture_68 : decode cL_isPicture 68 = .ok (.iconst 2, 1) := by decide +kernel
theorem dL_isPicture_69 : decode cL_isPicture 69 = .ok (.idiv, 1) := by decide +kernel
theorem dL_isPicture_70 : decode cL_isPicture 70 = .ok (.bipush 16, 2) := by decide +kernel
theorem dL_isPicture_72 : decode cL_isPicture 72 = .ok (.irem, 1) := by decide +kernel
theorem dL_isPicture_73 : decode cL_isPicture 73 = .ok (.bipush 9, 2) := by decide +kernel
theorem dL_isPicture_75 : decode cL_isPicture 75 = .ok (.isub, 1) := by decide +kernel
theorem dL_isPicture_76 : decode cL_isPicture 76 = .ok (.istore 13, 2) := by decide +kernel
theorem dL_isPicture_78 : decode cL_isPicture 78 = .ok (.aload_n 1, 1) := by decide +kernel
theorem dL_isPicture_79 : decode cL_isPicture 79 = .ok (.iload_n 2, 1) := by decide +kernel
theorem dL_isPicture_80 : decode cL_isPicture 80 = .ok (.iload 12, 2) := by decide +kernel
theorem dL_isPicture_82 : decode cL_isPicture 82 = .ok (.iload 13, 2) := by decide +kernel
theorem dL_isPicture_84 : decode cL_isPicture 84 = .ok (.iload 11, 2) := by decide +kernel
theorem dL_isPicture_86 : decode cL_isPicture 86 = .ok (.iconst 2, 1) := by decide +kernel
theorem dL_isPicture_87 : decode cL_isPicture 87 = .ok (.irem, 1) := by decide +kernel
theorem dL_isPicture_88 : decode cL_isPicture 88 = .ok (.aload 4, 2) := by decide +kernel
theorem dL_isPicture_90 : decode cL_isPicture 90 = .ok (.invokestatic 47, 3) := by decide +kernel
theorem dL_isPicture_93 : decode cL_isPicture 93 = .ok (.istore 14, 2) := by decide +kernel
theorem dL_isPicture_95 : decode cL_isPicture 95 = .ok (.iload 14, 2) := by decide +kernel
theorem dL_isPicture_97 : decode cL_isPicture 97 = .ok (.ifCond .ge 39, 3) := by decide +kernel
theorem dL_isPicture_100 : decode cL_isPicture 100 = .ok (.iload 11, 2) := by decide +kernel
theorem dL_isPicture_102 : decode cL_isPicture 102 = .ok (.bipush 7, 2) := by decide +kernel
theorem dL_isPicture_104 : decode cL_isPicture 104 = .ok (.irem, 1) := by decide +kernel
theorem dL_isPicture_105 : decode cL_isPicture 105 = .ok (.iload_n 3, 1) := by decide +kernel
theorem dL_isPicture_106 : decode cL_isPicture 106 = .ok (.bipush 9, 2) := by decide +kernel
theorem dL_isPicture_108 : decode cL_isPicture 108 = .ok (.ishr, 1) := by decide +kernel
theorem dL_isPicture_109 : decode cL_isPicture 109 = .ok (.bipush 7, 2) := by decide +kernel
theorem dL_isPicture_111 : decode cL_isPicture 111 = .ok (.invokestatic 16, 3) := by decide +kernel
theorem dL_isPicture_114 : decode cL_isPicture 114 = .ok (.if_icmp .ne 22, 3) := by decide +kernel
theorem dL_isPicture_117 : decode cL_isPicture 117 = .ok (.aload_n 0, 1) := by decide +kernel
theorem dL_isPicture_118 : decode cL_isPicture 118 = .ok (.iload 12, 2) := by decide +kernel
theorem dL_isPicture_120 : decode cL_isPicture 120 = .ok (.iload 13, 2) := by decide +kernel
theorem dL_isPicture_122 : decode cL_isPicture 122 = .ok (.iload 11, 2) := by decide +kernel
theorem dL_isPicture_124 : decode cL_isPicture 124 = .ok (.iconst 2, 1) := by decide +kernel
theorem dL_isPicture_125 : decode cL_isPicture 125 = .ok (.irem, 1) := by decide +kernel
theorem dL_isPicture_126 : decode cL_isPicture 126 = .ok (.iconst 0, 1) := by decide +kernel
theorem dL_isPicture_127 : decode cL_isPicture 127 = .ok (.invokevirtual 51, 3) := by decide +kernel
theorem dL_isPicture_130 : decode cL_isPicture 130 = .ok (.iconst (-1), 1) := by decide +kernel
theorem dL_isPicture_131 : decode cL_isPicture 131 = .ok (.if_icmp .eq 5, 3) := by decide +kernel
theorem dL_isPicture_134 : decode cL_isPicture 134 = .ok (.iconst 0, 1) := by decide +kernel
theorem dL_isPicture_135 : decode cL_isPicture 135 = .ok (.ireturn, 1) := by decide +kernel
theorem dL_isPicture_136 : decode cL_isPicture 136 = .ok (.iload 14, 2) := by decide +kernel
theorem dL_isPicture_138 : decode cL_isPicture 138 = .ok (.ifCond .lt 199, 3) := by decide +kernel
theorem dL_isPicture_141 : decode cL_isPicture 141 = .ok (.aload_n 0, 1) := by decide +kernel
theorem dL_isPicture_142 : decode cL_isPicture 142 = .ok (.aload 4, 2) := by decide +kernel
theorem dL_isPicture_144 : decode cL_isPicture 144 = .ok (.iconst 0, 1) := by decide +kernel
theorem dL_isPicture_145 : decode cL_isPicture 145 = .ok (.iaload, 1) := by decide +kernel
theorem dL_isPicture_146 : decode cL_isPicture 146 = .ok (.aload 4, 2) := by decide +kernel
theorem dL_isPicture_148 : decode cL_isPicture 148 = .ok (.iconst 1, 1) := by decide +kernel
theorem dL_isPicture_149 : decode cL_isPicture 149 = .ok (.iaload, 1) := by decide +kernel
theorem dL_isPicture_150 : decode cL_isPicture 150 = .ok (.aload 4, 2) := by decide +kernel
theorem dL_isPicture_152 : decode cL_isPicture 152 = .ok (.iconst 2, 1) := by decide +kernel
theorem dL_isPicture_153 : decode cL_isPicture 153 = .ok (.iaload, 1) := by decide +kernel
theorem dL_isPicture_154 : decode cL_isPicture 154 = .ok (.iconst 0, 1) := by decide +kernel
theorem dL_isPicture_155 : decode cL_isPicture 155 = .ok (.invokevirtual 55, 3) := by decide +kernel
theorem dL_isPicture_158 : decode cL_isPicture 158 = .ok (.istore 15, 2) := by decide +kernel
theorem dL_isPicture_160 : decode cL_isPicture 160 = .ok (.iinc 6 1, 3) := by decide +kernel
theorem dL_isPicture_163 : decode cL_isPicture 163 = .ok (.aload 5, 2) := by decide +kernel
theorem dL_isPicture_165 : decode cL_isPicture 165 = .ok (.iload 15, 2) := by decide +kernel
theorem dL_isPicture_167 : decode cL_isPicture 167 = .ok (.dup2, 1) := by decide +kernel
theorem dL_isPicture_168 : decode cL_isPicture 168 = .ok (.iaload, 1) := by decide +kernel
theorem dL_isPicture_169 : decode cL_isPicture 169 = .ok (.iconst 1, 1) := by decide +kernel
theorem dL_isPicture_170 : decode cL_isPicture 170 = .ok (.iadd, 1) := by decide +kernel
theorem dL_isPicture_171 : decode cL_isPicture 171 = .ok (.iastore, 1) := by decide +kernel
theorem dL_isPicture_172 : decode cL_isPicture 172 = .ok (.aload 10, 2) := by decide +kernel
theorem dL_isPicture_174 : decode cL_isPicture 174 = .ok (.iload 14, 2) := by decide +kernel
theorem dL_isPicture_176 : decode cL_isPicture 176 = .ok (.dup2, 1) := by decide +kernel
theorem dL_isPicture_177 : decode cL_isPicture 177 = .ok (.iaload, 1) := by decide +kernel
theorem dL_isPicture_178 : decode cL_isPicture 178 = .ok (.aload 4, 2) := by decide +kernel
theorem dL_isPicture_180 : decode cL_isPicture 180 = .ok (.iconst 0, 1) := by decide +kernel
theorem dL_isPicture_181 : decode cL_isPicture 181 = .ok (.iaload, 1) := by decide +kernel
theorem dL_isPicture_182 : decode cL_isPicture 182 = .ok (.iload 7, 2) := by decide +kernel
theorem dL_isPicture_184 : decode cL_isPicture 184 = .ok (.if_icmp .ne 25, 3) := by decide +kernel
theorem dL_isPicture_187 : decode cL_isPicture 187 = .ok (.aload 4, 2) := by decide +kernel
theorem dL_isPicture_189 : decode cL_isPicture 189 = .ok (.iconst 1, 1) := by decide +kernel
theorem dL_isPicture_190 : decode cL_isPicture 190 = .ok (.iaload, 1) := by decide +kernel
theorem dL_isPicture_191 : decode cL_isPicture 191 = .ok (.iload 8, 2) := by decide +kernel
theorem dL_isPicture_193 : decode cL_isPicture 193 = .ok (.if_icmp .ne 16, 3) := by decide +kernel
theorem dL_isPicture_196 : decode cL_isPicture 196 = .ok (.aload 4, 2) := by decide +kernel
theorem dL_isPicture_198 : decode cL_isPicture 198 = .ok (.iconst 2, 1) := by decide +kernel
theorem dL_isPicture_199 : decode cL_isPicture 199 = .ok (.iaload, 1) := by decide +kernel
theorem dL_isPicture_200 : decode cL_isPicture 200 = .ok (.iload 9, 2) := by decide +kernel
theorem dL_isPicture_202 : decode cL_isPicture 202 = .ok (.if_icmp .ne 7, 3) := by decide +kernel
theorem dL_isPicture_205 : decode cL_isPicture 205 = .ok (.iconst 1, 1) := by decide +kernel
theorem dL_isPicture_206 : decode cL_isPicture 206 = .ok (.goto 4, 3) := by decide +kernel
theorem dL_isPicture_209 : decode cL_isPicture 209 = .ok (.iconst 0, 1) := by decide +kernel
theorem dL_isPicture_210 : decode cL_isPicture 210 = .ok (.iadd, 1) := by decide +kernel
theorem dL_isPicture_211 : decode cL_isPicture 211 = .ok (.iastore, 1) := by decide +kernel
theorem dL_isPicture_212 : decode cL_isPicture 212 = .ok (.iload 11, 2) := by decide +kernel
theorem dL_isPicture_214 : decode cL_isPicture 214 = .ok (.iconst 5, 1) := by decide +kernel
theorem dL_isPicture_215 : decode cL_isPicture 215 = .ok (.irem, 1) := by decide +kernel
theorem dL_isPicture_216 : decode cL_isPicture 216 = .ok (.iload_n 3, 1) := by decide +kernel
theorem dL_isPicture_217 : decode cL_isPicture 217 = .ok (.bipush 12, 2) := by decide +kernel
theorem dL_isPicture_219 : decode cL_isPicture 219 = .ok (.ishr, 1) := by decide +kernel
theorem dL_isPicture_220 : decode cL_isPicture 220 = .ok (.iconst 5, 1) := by decide +kernel
theorem dL_isPicture_221 : decode cL_isPicture 221 = .ok (.invokestatic 16, 3) := by decide +kernel
theorem dL_isPicture_224 : decode cL_isPicture 224 = .ok (.if_icmp .ne 99, 3) := by decide +kernel
theorem dL_isPicture_227 : decode cL_isPicture 227 = .ok (.aload_n 0, 1) := by decide +kernel
theorem dL_isPicture_228 : decode cL_isPicture 228 = .ok (.iload 12, 2) := by decide +kernel
theorem dL_isPicture_230 : decode cL_isPicture 230 = .ok (.iload 13, 2) := by decide +kernel
theorem dL_isPicture_232 : decode cL_isPicture 232 = .ok (.iload 11, 2) := by decide +kernel
theorem dL_isPicture_234 : decode cL_isPicture 234 = .ok (.iconst 2, 1) := by decide +kernel
theorem dL_isPicture_235 : decode cL_isPicture 235 = .ok (.irem, 1) := by decide +kernel
theorem dL_isPicture_236 : decode cL_isPicture 236 = .ok (.iconst 0, 1) := by decide +kernel
theorem dL_isPicture_237 : decode cL_isPicture 237 = .ok (.invokevirtual 51, 3) := by decide +kernel
theorem dL_isPicture_240 : decode cL_isPicture 240 = .ok (.aload 4, 2) := by decide +kernel
theorem dL_isPicture_242 : decode cL_isPicture 242 = .ok (.iconst 0, 1) := by decide +kernel
theorem dL_isPicture_243 : decode cL_isPicture 243 = .ok (.iaload, 1) := by decide +kernel
theorem dL_isPicture_244 : decode cL_isPicture 244 = .ok (.if_icmp .ne 83, 3) := by decide +kernel
theorem dL_isPicture_247 : decode cL_isPicture 247 = .ok (.aload_n 0, 1) := by decide +kernel
theorem dL_isPicture_248 : decode cL_isPicture 248 = .ok (.iload 12, 2) := by decide +kernel
theorem dL_isPicture_250 : decode cL_isPicture 250 = .ok (.iload 13, 2) := by decide +kernel
theorem dL_isPicture_252 : decode cL_isPicture 252 = .ok (.iload 11, 2) := by decide +kernel
theorem dL_isPicture_254 : decode cL_isPicture 254 = .ok (.iconst 2, 1) := by decide +kernel
theorem dL_isPicture_255 : decode cL_isPicture 255 = .ok (.irem, 1) := by decide +kernel
theorem dL_isPicture_256 : decode cL_isPicture 256 = .ok (.iconst 1, 1) := by decide +kernel
theorem dL_isPicture_257 : decode cL_isPicture 257 = .ok (.invokevirtual 51, 3) := by decide +kernel
theorem dL_isPicture_260 : decode cL_isPicture 260 = .ok (.aload 4, 2) := by decide +kernel
theorem dL_isPicture_262 : decode cL_isPicture 262 = .ok (.iconst 1, 1) := by decide +kernel
theorem dL_isPicture_263 : decode cL_isPicture 263 = .ok (.iaload, 1) := by decide +kernel
theorem dL_isPicture_264 : decode cL_isPicture 264 = .ok (.if_icmp .ne 63, 3) := by decide +kernel
theorem dL_isPicture_267 : decode cL_isPicture 267 = .ok (.aload_n 0, 1) := by decide +kernel
theorem dL_isPicture_268 : decode cL_isPicture 268 = .ok (.iload 12, 2) := by decide +kernel
theorem dL_isPicture_270 : decode cL_isPicture 270 = .ok (.iload 13, 2) := by decide +kernel
theorem dL_isPicture_272 : decode cL_isPicture 272 = .ok (.iload 11, 2) := by decide +kernel
theorem dL_isPicture_274 : decode cL_isPicture 274 = .ok (.iconst 2, 1) := by decide +kernel
theorem dL_isPicture_275 : decode cL_isPicture 275 = .ok (.irem, 1) := by decide +kernel
theorem dL_isPicture_276 : decode cL_isPicture 276 = .ok (.iconst 2, 1) := by decide +kernel
theorem dL_isPicture_277 : decode cL_isPicture 277 = .ok (.invokevirtual 51, 3) := by decide +kernel
theorem dL_isPicture_280 : decode cL_isPicture 280 = .ok (.aload 4, 2) := by decide +kernel
theorem dL_isPicture_282 : decode cL_isPicture 282 = .ok (.iconst 2, 1) := by decide +kernel
theorem dL_isPicture_283 : decode cL_isPicture 283 = .ok (.iaload, 1) := by decide +kernel
theorem dL_isPicture_284 : decode cL_isPicture 284 = .ok (.if_icmp .ne 43, 3) := by decide +kernel
theorem dL_isPicture_287 : decode cL_isPicture 287 = .ok (.aload_n 0, 1) := by decide +kernel
theorem dL_isPicture_288 : decode cL_isPicture 288 = .ok (.iload 12, 2) := by decide +kernel
theorem dL_isPicture_290 : decode cL_isPicture 290 = .ok (.iload 13, 2) := by decide +kernel
theorem dL_isPicture_292 : decode cL_isPicture 292 = .ok (.iload 11, 2) := by decide +kernel
theorem dL_isPicture_294 : decode cL_isPicture 294 = .ok (.iconst 2, 1) := by decide +kernel
theorem dL_isPicture_295 : decode cL_isPicture 295 = .ok (.irem, 1) := by decide +kernel
theorem dL_isPicture_296 : decode cL_isPicture 296 = .ok (.iconst 3, 1) := by decide +kernel
theorem dL_isPicture_297 : decode cL_isPicture 297 = .ok (.invokevirtual 51, 3) := by decide +kernel
theorem dL_isPicture_300 : decode cL_isPicture 300 = .ok (.iload 14, 2) := by decide +kernel
theorem dL_isPicture_302 : decode cL_isPicture 302 = .ok (.if_icmp .ne 25, 3) := by decide +kernel
theorem dL_isPicture_305 : decode cL_isPicture 305 = .ok (.aload_n 0, 1) := by decide +kernel
theorem dL_isPicture_306 : decode cL_isPicture 306 = .ok (.iload 12, 2) := by decide +kernel
theorem dL_isPicture_308 : decode cL_isPicture 308 = .ok (.iload 13, 2) := by decide +kernel
theorem dL_isPicture_310 : decode cL_isPicture 310 = .ok (.iload 11, 2) := by decide +kernel
theorem dL_isPicture_312 : decode cL_isPicture 312 = .ok (.iconst 2, 1) := by decide +kernel
theorem dL_isPicture_313 : decode cL_isPicture 313 = .ok (.irem, 1) := by decide +kernel
theorem dL_isPicture_314 : decode cL_isPicture 314 = .ok (.iconst 4, 1) := by decide +kernel
theorem dL_isPicture_315 : decode cL_isPicture 315 = .ok (.invokevirtual 51, 3) := by decide +kernel
theorem dL_isPicture_318 : decode cL_isPicture 318 = .ok (.iload 15, 2) := by decide +kernel
theorem dL_isPicture_320 : decode cL_isPicture 320 = .ok (.if_icmp .ne 7, 3) := by decide +kernel
theorem dL_isPicture_323 : decode cL_isPicture 323 = .ok (.iconst 1, 1) := by decide +kernel
theorem dL_isPicture_324 : decode cL_isPicture 324 = .ok (.goto 4, 3) := by decide +kernel
theorem dL_isPicture_327 : decode cL_isPicture 327 = .ok (.iconst 0, 1) := by decide +kernel
theorem dL_isPicture_328 : decode cL_isPicture 328 = .ok (.istore 16, 2) := by decide +kernel
theorem dL_isPicture_330 : decode cL_isPicture 330 = .ok (.iload 16, 2) := by decide +kernel
theorem dL_isPicture_332 : decode cL_isPicture 332 = .ok (.ifCond .ne 5, 3) := by decide +kernel
theorem dL_isPicture_335 : decode cL_isPicture 335 = .ok (.iconst 0, 1) := by decide +kernel
theorem dL_isPicture_336 : decode cL_isPicture 336 = .ok (.ireturn, 1) := by decide +kernel
theorem dL_isPicture_337 : decode cL_isPicture 337 = .ok (.iinc 11 1, 3) := by decide +kernel
theorem dL_isPicture_340 : decode cL_isPicture 340 = .ok (.goto (-292), 3) := by decide +kernel
theorem dL_isPicture_343 : decode cL_isPicture 343 = .ok (.aload_n 0, 1) := by decide +kernel
theorem dL_isPicture_344 : decode cL_isPicture 344 = .ok (.iconst 4, 1) := by decide +kernel
theorem dL_isPicture_345 : decode cL_isPicture 345 = .ok (.invokevirtual 33, 3) := by decide +kernel
theorem dL_isPicture_348 : decode cL_isPicture 348 = .ok (.iload 6, 2) := by decide +kernel
theorem dL_isPicture_350 : decode cL_isPicture 350 = .ok (.if_icmp .ne 58, 3) := by decide +kernel
theorem dL_isPicture_353 : decode cL_isPicture 353 = .ok (.aload_n 0, 1) := by decide +kernel
theorem dL_isPicture_354 : decode cL_isPicture 354 = .ok (.iconst 5, 1) := by decide +kernel
theorem dL_isPicture_355 : decode cL_isPicture 355 = .ok (.invokevirtual 33, 3) := by decide +kernel
theorem dL_isPicture_358 : decode cL_isPicture 358 = .ok (.aload 5, 2) := by decide +kernel
theorem dL_isPicture_360 : decode cL_isPicture 360 = .ok (.iconst 0, 1) := by decide +kernel
theorem dL_isPicture_361 : decode cL_isPicture 361 = .ok (.iaload, 1) := by decide +kernel
theorem dL_isPicture_362 : decode cL_isPicture 362 = .ok (.if_icmp .ne 46, 3) := by decide +kernel
theorem dL_isPicture_365 : decode cL_isPicture 365 = .ok (.aload_n 0, 1) := by decide +kernel
theorem dL_isPicture_366 : decode cL_isPicture 366 = .ok (.bipush 6, 2) := by decide +kernel
theorem dL_isPicture_368 : decode cL_isPicture 368 = .ok (.invokevirtual 33, 3) := by decide +kernel
theorem dL_isPicture_371 : decode cL_isPicture 371 = .ok (.aload 5, 2) := by decide +kernel
theorem dL_isPicture_373 : decode cL_isPicture 373 = .ok (.iconst 1, 1) := by decide +kernel
theorem dL_isPicture_374 : decode cL_isPicture 374 = .ok (.iaload, 1) := by decide +kernel
theorem dL_isPicture_375 : decode cL_isPicture 375 = .ok (.if_icmp .ne 33, 3) := by decide +kernel
theorem dL_isPicture_378 : decode cL_isPicture 378 = .ok (.aload_n 0, 1) := by decide +kernel
theorem dL_isPicture_379 : decode cL_isPicture 379 = .ok (.bipush 7, 2) := by decide +kernel
theorem dL_isPicture_381 : decode cL_isPicture 381 = .ok (.invokevirtual 33, 3) := by decide +kernel
theorem dL_isPicture_384 : decode cL_isPicture 384 = .ok (.aload 5, 2) := by decide +kernel
theorem dL_isPicture_386 : decode cL_isPicture 386 = .ok (.iconst 2, 1) := by decide +kernel
theorem dL_isPicture_387 : decode cL_isPicture 387 = .ok (.iaload, 1) := by decide +kernel
theorem dL_isPicture_388 : decode cL_isPicture 388 = .ok (.if_icmp .ne 20, 3) := by decide +kernel
theorem dL_isPicture_391 : decode cL_isPicture 391 = .ok (.aload_n 0, 1) := by decide +kernel
theorem dL_isPicture_392 : decode cL_isPicture 392 = .ok (.bipush 8, 2) := by decide +kernel
theorem dL_isPicture_394 : decode cL_isPicture 394 = .ok (.invokevirtual 33, 3) := by decide +kernel
theorem dL_isPicture_397 : decode cL_isPicture 397 = .ok (.aload 5, 2) := by decide +kernel
theorem dL_isPicture_399 : decode cL_isPicture 399 = .ok (.iconst 3, 1) := by decide +kernel
theorem dL_isPicture_400 : decode cL_isPicture 400 = .ok (.iaload, 1) := by decide +kernel
theorem dL_isPicture_401 : decode cL_isPicture 401 = .ok (.if_icmp .ne 7, 3) := by decide +kernel
theorem dL_isPicture_404 : decode cL_isPicture 404 = .ok (.iconst 1, 1) := by decide +kernel
theorem dL_isPicture_405 : decode cL_isPicture 405 = .ok (.goto 4, 3) := by decide +kernel
theorem dL_isPicture_408 : decode cL_isPicture 408 = .ok (.iconst 0, 1) := by decide +kernel
theorem dL_isPicture_409 : decode cL_isPicture 409 = .ok (.istore 11, 2) := by decide +kernel
theorem dL_isPicture_411 : decode cL_isPicture 411 = .ok (.aload_n 1, 1) := by decide +kernel
theorem dL_isPicture_412 : decode cL_isPicture 412 = .ok (.iload_n 2, 1) := by decide +kernel
theorem dL_isPicture_413 : decode cL_isPicture 413 = .ok (.iload 7, 2) := by decide +kernel
theorem dL_isPicture_415 : decode cL_isPicture 415 = .ok (.iload 8, 2) := by decide +kernel
theorem dL_isPicture_417 : decode cL_isPicture 417 = .ok (.iload 9, 2) := by decide +kernel
theorem dL_isPicture_419 : decode cL_isPicture 419 = .ok (.invokestatic 39, 3) := by decide +kernel
theorem dL_isPicture_422 : decode cL_isPicture 422 = .ok (.ifCond .eq 104, 3) := by decide +kernel
theorem dL_isPicture_425 : decode cL_isPicture 425 = .ok (.iload 11, 2) := by decide +kernel
theorem dL_isPicture_427 : decode cL_isPicture 427 = .ok (.ifCond .eq 97, 3) := by decide +kernel
theorem dL_isPicture_430 : decode cL_isPicture 430 = .ok (.aload_n 0, 1) := by decide +kernel
theorem dL_isPicture_431 : decode cL_isPicture 431 = .ok (.iload 7, 2) := by decide +kernel
theorem dL_isPicture_433 : decode cL_isPicture 433 = .ok (.iload 8, 2) := by decide +kernel
theorem dL_isPicture_435 : decode cL_isPicture 435 = .ok (.iload 9, 2) := by decide +kernel
theorem dL_isPicture_437 : decode cL_isPicture 437 = .ok (.iconst 1, 1) := by decide +kernel
theorem dL_isPicture_438 : decode cL_isPicture 438 = .ok (.invokevirtual 55, 3) := by decide +kernel
theorem dL_isPicture_441 : decode cL_isPicture 441 = .ok (.aload 10, 2) := by decide +kernel
theorem dL_isPicture_443 : decode cL_isPicture 443 = .ok (.iconst 0, 1) := by decide +kernel
theorem dL_isPicture_444 : decode cL_isPicture 444 = .ok (.iaload, 1) := by decide +kernel
theorem dL_isPicture_445 : decode cL_isPicture 445 = .ok (.if_icmp .ne 79, 3) := by decide +kernel
theorem dL_isPicture_448 : decode cL_isPicture 448 = .ok (.aload_n 0, 1) := by decide +kernel
theorem dL_isPicture_449 : decode cL_isPicture 449 = .ok (.iload 7, 2) := by decide +kernel
theorem dL_isPicture_451 : decode cL_isPicture 451 = .ok (.iload 8, 2) := by decide +kernel
theorem dL_isPicture_453 : decode cL_isPicture 453 = .ok (.iload 9, 2) := by decide +kernel
theorem dL_isPicture_455 : decode cL_isPicture 455 = .ok (.iconst 2, 1) := by decide +kernel
theorem dL_isPicture_456 : decode cL_isPicture 456 = .ok (.invokevirtual 55, 3) := by decide +kernel
theorem dL_isPicture_459 : decode cL_isPicture 459 = .ok (.aload 10, 2) := by decide +kernel
theorem dL_isPicture_461 : decode cL_isPicture 461 = .ok (.iconst 1, 1) := by decide +kernel
theorem dL_isPicture_462 : decode cL_isPicture 462 = .ok (.iaload, 1) := by decide +kernel
theorem dL_isPicture_463 : decode cL_isPicture 463 = .ok (.if_icmp .ne 61, 3) := by decide +kernel
theorem dL_isPicture_466 : decode cL_isPicture 466 = .ok (.aload_n 0, 1) := by decide +kernel
theorem dL_isPicture_467 : decode cL_isPicture 467 = .ok (.iload 7, 2) := by decide +kernel
theorem dL_isPicture_469 : decode cL_isPicture 469 = .ok (.iload 8, 2) := by decide +kernel
theorem dL_isPicture_471 : decode cL_isPicture 471 = .ok (.iload 9, 2) := by decide +kernel
theorem dL_isPicture_473 : decode cL_isPicture 473 = .ok (.iconst 3, 1) := by decide +kernel
theorem dL_isPicture_474 : decode cL_isPicture 474 = .ok (.invokevirtual 55, 3) := by decide +kernel
theorem dL_isPicture_477 : decode cL_isPicture 477 = .ok (.aload 10, 2) := by decide +kernel
theorem dL_isPicture_479 : decode cL_isPicture 479 = .ok (.iconst 2, 1) := by decide +kernel
theorem dL_isPicture_480 : decode cL_isPicture 480 = .ok (.iaload, 1) := by decide +kernel
theorem dL_isPicture_481 : decode cL_isPicture 481 = .ok (.if_icmp .ne 43, 3) := by decide +kernel
theorem dL_isPicture_484 : decode cL_isPicture 484 = .ok (.aload_n 0, 1) := by decide +kernel
theorem dL_isPicture_485 : decode cL_isPicture 485 = .ok (.iload 7, 2) := by decide +kernel
theorem dL_isPicture_487 : decode cL_isPicture 487 = .ok (.iload 8, 2) := by decide +kernel
theorem dL_isPicture_489 : decode cL_isPicture 489 = .ok (.iload 9, 2) := by decide +kernel
theorem dL_isPicture_491 : decode cL_isPicture 491 = .ok (.iconst 4, 1) := by decide +kernel
theorem dL_isPicture_492 : decode cL_isPicture 492 = .ok (.invokevirtual 55, 3) := by decide +kernel
theorem dL_isPicture_495 : decode cL_isPicture 495 = .ok (.aload 10, 2) := by decide +kernel
theorem dL_isPicture_497 : decode cL_isPicture 497 = .ok (.iconst 0, 1) := by decide +kernel
theorem dL_isPicture_498 : decode cL_isPicture 498 = .ok (.iaload, 1) := by decide +kernel
theorem dL_isPicture_499 : decode cL_isPicture 499 = .ok (.aload 10, 2) := by decide +kernel
theorem dL_isPicture_501 : decode cL_isPicture 501 = .ok (.iconst 1, 1) := by decide +kernel
theorem dL_isPicture_502 : decode cL_isPicture 502 = .ok (.iaload, 1) := by decide +kernel
theorem dL_isPicture_503 : decode cL_isPicture 503 = .ok (.iadd, 1) := by decide +kernel
theorem dL_isPicture_504 : decode cL_isPicture 504 = .ok (.aload 10, 2) := by decide +kernel
theorem dL_isPicture_506 : decode cL_isPicture 506 = .ok (.iconst 2, 1) := by decide +kernel
theorem dL_isPicture_507 : decode cL_isPicture 507 = .ok (.iaload, 1) := by decide +kernel
theorem dL_isPicture_508 : decode cL_isPicture 508 = .ok (.iadd, 1) := by decide +kernel
theorem dL_isPicture_509 : decode cL_isPicture 509 = .ok (.ifCond .le 7, 3) := by decide +kernel
theorem dL_isPicture_512 : decode cL_isPicture 512 = .ok (.iconst 1, 1) := by decide +kernel
theorem dL_isPicture_513 : decode cL_isPicture 513 = .ok (.goto 4, 3) := by decide +kernel
theorem dL_isPicture_516 : decode cL_isPicture 516 = .ok (.iconst 0, 1) := by decide +kernel
theorem dL_isPicture_517 : decode cL_isPicture 517 = .ok (.if_icmp .ne 7, 3) := by decide +kernel
theorem dL_isPicture_520 : decode cL_isPicture 520 = .ok (.iconst 1, 1) := by decide +kernel
theorem dL_isPicture_521 : decode cL_isPicture 521 = .ok (.goto 4, 3) := by decide +kernel
theorem dL_isPicture_524 : decode cL_isPicture 524 = .ok (.iconst 0, 1) := by decide +kernel
theorem dL_isPicture_525 : decode cL_isPicture 525 = .ok (.ireturn, 1) := by decide +kernel
theorem dL_isPicture_526 : decode cL_isPicture 526 = .ok (.iload 11, 2) := by decide +kernel
theorem dL_isPicture_528 : decode cL_isPicture 528 = .ok (.ifCond .eq 37, 3) := by decide +kernel
theorem dL_isPicture_531 : decode cL_isPicture 531 = .ok (.aload_n 0, 1) := by decide +kernel
theorem dL_isPicture_532 : decode cL_isPicture 532 = .ok (.iload 7, 2) := by decide +kernel
theorem dL_isPicture_534 : decode cL_isPicture 534 = .ok (.iload 8, 2) := by decide +kernel
theorem dL_isPicture_536 : decode cL_isPicture 536 = .ok (.iload 9, 2) := by decide +kernel
theorem dL_isPicture_538 : decode cL_isPicture 538 = .ok (.iconst 0, 1) := by decide +kernel
theorem dL_isPicture_539 : decode cL_isPicture 539 = .ok (.invokevirtual 55, 3) := by decide +kernel
theorem dL_isPicture_542 : decode cL_isPicture 542 = .ok (.iconst (-1), 1) := by decide +kernel
theorem dL_isPicture_543 : decode cL_isPicture 543 = .ok (.if_icmp .ne 22, 3) := by decide +kernel
theorem dL_isPicture_546 : decode cL_isPicture 546 = .ok (.aload_n 0, 1) := by decide +kernel
theorem dL_isPicture_547 : decode cL_isPicture 547 = .ok (.iload 7, 2) := by decide +kernel
theorem dL_isPicture_549 : decode cL_isPicture 549 = .ok (.iload 8, 2) := by decide +kernel
theorem dL_isPicture_551 : decode cL_isPicture 551 = .ok (.iload 9, 2) := by decide +kernel
theorem dL_isPicture_553 : decode cL_isPicture 553 = .ok (.iconst 4, 1) := by decide +kernel
theorem dL_isPicture_554 : decode cL_isPicture 554 = .ok (.invokevirtual 55, 3) := by decide +kernel
theorem dL_isPicture_557 : decode cL_isPicture 557 = .ok (.iconst (-1), 1) := by decide +kernel
theorem dL_isPicture_558 : decode cL_isPicture 558 = .ok (.if_icmp .ne 7, 3) := by decide +kernel
theorem dL_isPicture_561 : decode cL_isPicture 561 = .ok (.iconst 1, 1) := by decide +kernel
theorem dL_isPicture_562 : decode cL_isPicture 562 = .ok (.goto 4, 3) := by decide +kernel
theorem dL_isPicture_565 : decode cL_isPicture 565 = .ok (.iconst 0, 1) := by decide +kernel
theorem dL_isPicture_566 : decode cL_isPicture 566 = .ok (.ireturn, 1) := by decide +kernel
set_option maxRecDepth 20000 in
theorem ggL_isSeen_X4_block : GoodIn wsL_isSeen wsX4_block := goodIn_ca (goodIn_ca (goodIn_r _ [5, 6, 7, 8, 9, 4, 10, 11, 12, 13, 14, 15, 16, 17, 18, 19, 20, 21, 22, 23, 24, 25, 26, 27, 28, 29, 30, 31, 32, 33, 34, 35, 36, 37, 38, 39, 40, 41, 42, 43, 44, 45, 46, 47, 48, 49, 50, 51, 52, 53, 54, 55, 56, 57, 58, 59, 60, 61, 62, 63, 64, 65, 66, 67, 68, 69, 70, 71, 72, 73, 74, 75, 76, 77, 78, 79, 80, 81, 82, 83, 84, 85, 86, 87, 88, 89, 90, 91, 92, 93, 94, 95, 96, 97, 98, 99, 100, 101, 102, 103, 104, 105, 106, 107, 108, 176, 177, 178, 179, 180, 181, 182, 183, 184, 185, 186, 187, 188, 189, 190, 191, 192, 193] (by decide +kernel) (by decide +kernel)) (goodIn_sub (fun _ h => List.mem_cons_of_mem _ (List.mem_append_left _ (List.mem_append_right _ h))) (by decide +kernel))) (goodIn_sub (fun _ h => List.mem_cons_of_mem _ (List.mem_append_right _ h)) (by decide +kernel))
set_option maxRecDepth 20000 in
theorem gL_isSeen_X4_block : GoodIn wsL_isSeen (wsV RL 55 RX4 yX4_block wsX4_block) := goodIn_app (goodIn_of _ (by decide +kernel)) ggL_isSeen_X4_block
set_option maxRecDepth 20000 in
theorem ggL_isSeen_X4_stack : GoodIn wsL_isSeen wsX4_stack := goodIn_ca (goodIn_ca (goodIn_r _ [112, 6, 7, 8, 9, 4, 10, 11, 12, 13, 14, 15, 16, 17, 18, 19, 20, 21, 22, 23, 24, 25, 26, 27, 28, 29, 30, 31, 32, 33, 34, 113, 114, 115, 116, 40, 117, 36, 37, 38, 39, 118, 119, 120, 121, 122, 44, 45, 46, 47, 48, 49, 50, 51, 52, 53, 54, 55, 56, 57, 58, 59, 60, 61, 62, 63, 64, 65, 66, 67, 68, 69, 70, 71, 72, 73, 74, 75, 76, 77, 78, 79, 80, 42, 43, 81, 82, 83, 84, 85, 86, 87, 88, 89, 90, 91, 92, 93, 94, 95, 96, 97, 98, 99, 100, 101, 102, 103, 104, 105, 123, 124, 125, 126, 176, 177, 178, 179, 180, 181, 182, 183, 184, 185, 186, 187, 188, 189, 190, 191, 192, 193] (by decide +kernel) (by decide +kernel)) (goodIn_sub (fun _ h => List.mem_cons_of_mem _ (List.mem_append_left _ (List.mem_append_right _ h))) (by decide +kernel))) (goodIn_sub (fun _ h => List.mem_cons_of_mem _ (List.mem_append_right _ h)) (by decide +kernel))
set_option maxRecDepth 20000 in
theorem gL_isSeen_X4_stack : GoodIn wsL_isSeen (wsV RL 36 RX4 yX4_stack wsX4_stack) := goodIn_app (goodIn_of _ (by decide +kernel)) ggL_isSeen_X4_stack
set_option maxRecDepth 20000 in
theorem ggL_isSeen_X4_count : GoodIn wsL_isSeen wsX4_count := goodIn_ca (goodIn_r _ [130, 6, 131, 23, 24, 4, 25, 26, 27, 132, 133, 134, 16, 135, 22, 136, 137, 138, 139, 140, 141, 142, 143, 40, 29, 30, 31, 32, 18, 19, 20, 21, 33, 34, 44, 45, 46, 47, 48, 49, 50, 51, 52, 53, 54, 55, 56, 57, 58, 59, 60, 61, 62, 63, 64, 65, 66, 67, 68, 69, 70, 71, 72, 73, 74, 75, 76, 77, 78, 79, 80, 42, 43, 81, 82, 83, 84, 85, 86, 87, 88, 89, 90, 91, 92, 93, 94, 95, 96, 97, 98, 99, 100, 101, 102, 103, 104, 105, 144, 145, 146, 147, 148, 119, 120, 121, 122, 14, 15, 17, 149, 150, 151, 152, 153, 154, 155, 156, 157, 158, 159, 160, 161, 162, 163, 164, 165, 166, 167, 168, 169, 170, 171, 36, 37, 38, 39, 176, 177, 178, 179, 180, 181, 182, 183, 184, 185, 186, 187, 188, 189, 190, 191, 192, 193, 194, 195, 196] (by decide +kernel) (by decide +kernel)) (goodIn_sub (fun _ h => List.mem_cons_of_mem _ (List.mem_append_right _ h)) (by decide +kernel))
set_option maxRecDepth 20000 in
theorem gL_isSeen_X4_count : GoodIn wsL_isSeen (wsV RL 33 RX4 yX4_count wsX4_count) := goodIn_app (goodIn_of _ (by decide +kernel)) ggL_isSeen_X4_count
set_option maxRecDepth 20000 in
theorem ggL_isSeen_X4_seenShare : GoodIn wsL_isSeen wsX4_seenShare := goodIn_r _ [175, 6, 132, 133, 134, 16, 135, 22, 136, 137, 138, 139, 140, 141, 142, 143, 40, 29, 30, 31, 32, 18, 19, 20, 21, 33, 4, 34, 44, 45, 46, 47, 48, 49, 50, 51, 52, 53, 54, 55, 56, 57, 58, 59, 60, 61, 62, 63, 64, 65, 66, 67, 68, 69, 70, 71, 72, 73, 74, 75, 76, 77, 78, 79, 80, 42, 43, 81, 82, 83, 84, 85, 86, 87, 88, 89, 90, 91, 92, 93, 94, 95, 96, 97, 98, 99, 100, 101, 102, 103, 104, 105, 176, 177, 178, 179, 180, 181, 182, 183, 188, 189, 190, 191, 192, 193, 184, 185, 186, 187] (by decide +kernel) (by decide +kernel)
set_option maxRecDepth 20000 in
theorem gL_isSeen_X4_seenShare : GoodIn wsL_isSeen (wsV RL 58 RX4 yX4_seenShare wsX4_seenShare) := goodIn_app (goodIn_of _ (by decide +kernel)) ggL_isSeen_X4_seenShare
theorem dL_isSeen_0 : decode cL_isSeen 0 = .ok (.iconst 0, 1) := by decide +kernel
theorem dL_isSeen_1 : decode cL_isSeen 1 = .ok (.istore_n 3, 1) := by decide +kernel
theorem dL_isSeen_2 : decode cL_isSeen 2 = .ok (.iconst 0, 1) := by decide +kernel
theorem dL_isSeen_3 : decode cL_isSeen 3 = .ok (.istore 4, 2) := by decide +kernel
theorem dL_isSeen_5 : decode cL_isSeen 5 = .ok (.iconst 0, 1) := by decide +kernel
theorem dL_isSeen_6 : decode cL_isSeen 6 = .ok (.istore 5, 2) := by decide +kernel
theorem dL_isSeen_8 : decode cL_isSeen 8 = .ok (.iconst 0, 1) := by decide +kernel
theorem dL_isSeen_9 : decode cL_isSeen 9 = .ok (.istore 6, 2) := by decide +kernel
theorem dL_isSeen_11 : decode cL_isSeen 11 = .ok (.iload 6, 2) := by decide +kernel
theorem dL_isSeen_13 : decode cL_isSeen 13 = .ok (.iload_n 2, 1) := by decide +kernel
theorem dL_isSeen_14 : decode cL_isSeen 14 = .ok (.iload_n 2, 1) := by decide +kernel
theorem dL_isSeen_15 : decode cL_isSeen 15 = .ok (.imul, 1) := by decide +kernel
theorem dL_isSeen_16 : decode cL_isSeen 16 = .ok (.if_icmp .ge 179, 3) := by decide +kernel
theorem dL_isSeen_19 : decode cL_isSeen 19 = .ok (.iconst 0, 1) := by decide +kernel
theorem dL_isSeen_20 : decode cL_isSeen 20 = .ok (.istore 7, 2) := by decide +kernel
theorem dL_isSeen_22 : decode cL_isSeen 22 = .ok (.iconst 0, 1) := by decide +kernel
theorem dL_isSeen_23 : decode cL_isSeen 23 = .ok (.istore 8, 2) := by decide +kernel
theorem dL_isSeen_25 : decode cL_isSeen 25 = .ok (.iload 8, 2) := by decide +kernel
theorem dL_isSeen_27 : decode cL_isSeen 27 = .ok (.aload_n 1, 1) := by decide +kernel
theorem dL_isSeen_28 : decode cL_isSeen 28 = .ok (.bipush 6, 2) := by decide +kernel
theorem dL_isSeen_30 : decode cL_isSeen 30 = .ok (.iload 6, 2) := by decide +kernel
theorem dL_isSeen_32 : decode cL_isSeen 32 = .ok (.iload_n 2, 1) := by decide +kernel
theorem dL_isSeen_33 : decode cL_isSeen 33 = .ok (.idiv, 1) := by decide +kernel
theorem dL_isSeen_34 : decode cL_isSeen 34 = .ok (.imul, 1) := by decide +kernel
theorem dL_isSeen_35 : decode cL_isSeen 35 = .ok (.iload 6, 2) := by decide +kernel
theorem dL_isSeen_37 : decode cL_isSeen 37 = .ok (.iload_n 2, 1) := by decide +kernel
theorem dL_isSeen_38 : decode cL_isSeen 38 = .ok (.irem, 1) := by decide +kernel
theorem dL_isSeen_39 : decode cL_isSeen 39 = .ok (.iadd, 1) := by decide +kernel
theorem dL_isSeen_40 : decode cL_isSeen 40 = .ok (.iaload, 1) := by decide +kernel
theorem dL_isSeen_41 : decode cL_isSeen 41 = .ok (.if_icmp .ge 104, 3) := by decide +kernel
theorem dL_isSeen_44 : decode cL_isSeen 44 = .ok (.aload_n 0, 1) := by decide +kernel
theorem dL_isSeen_45 : decode cL_isSeen 45 = .ok (.iload 6, 2) := by decide +kernel
theorem dL_isSeen_47 : decode cL_isSeen 47 = .ok (.iload_n 2, 1) := by decide +kernel
theorem dL_isSeen_48 : decode cL_isSeen 48 = .ok (.irem, 1) := by decide +kernel
theorem dL_isSeen_49 : decode cL_isSeen 49 = .ok (.iload 6, 2) := by decide +kernel
theorem dL_isSeen_51 : decode cL_isSeen 51 = .ok (.iload_n 2, 1) := by decide +kernel
theorem dL_isSeen_52 : decode cL_isSeen 52 = .ok (.idiv, 1) := by decide +kernel
theorem dL_isSeen_53 : decode cL_isSeen 53 = .ok (.iload 8, 2) := by decide +kernel
theorem dL_isSeen_55 : decode cL_isSeen 55 = .ok (.iconst 4, 1) := by decide +kernel
theorem dL_isSeen_56 : decode cL_isSeen 56 = .ok (.invokevirtual 55, 3) := by decide +kernel
theorem dL_isSeen_59 : decode cL_isSeen 59 = .ok (.istore 9, 2) := by decide +kernel
theorem dL_isSeen_61 : decode cL_isSeen 61 = .ok (.iload 7, 2) := by decide +kernel
theorem dL_isSeen_63 : decode cL_isSeen 63 = .ok (.iload 9, 2) := by decide +kernel
theorem dL_isSeen_65 : decode cL_isSeen 65 = .ok (.iadd, 1) := by decide +kernel
theorem dL_isSeen_66 : decode cL_isSeen 66 = .ok (.istore 7, 2) := by decide +kernel
theorem dL_isSeen_68 : decode cL_isSeen 68 = .ok (.iconst 1, 1) := by decide +kernel
theorem dL_isSeen_69 : decode cL_isSeen 69 = .ok (.istore 10, 2) := by decide +kernel
theorem dL_isSeen_71 : decode cL_isSeen 71 = .ok (.iload 10, 2) := by decide +kernel
theorem dL_isSeen_73 : decode cL_isSeen 73 = .ok (.iconst 4, 1) := by decide +kernel
theorem dL_isSeen_74 : decode cL_isSeen 74 = .ok (.if_icmp .ge 65, 3) := by decide +kernel
theorem dL_isSeen_77 : decode cL_isSeen 77 = .ok (.aload_n 0, 1) := by decide +kernel
theorem dL_isSeen_78 : decode cL_isSeen 78 = .ok (.iload 6, 2) := by decide +kernel
theorem dL_isSeen_80 : decode cL_isSeen 80 = .ok (.iload_n 2, 1) := by decide +kernel
theorem dL_isSeen_81 : decode cL_isSeen 81 = .ok (.irem, 1) := by decide +kernel
theorem dL_isSeen_82 : decode cL_isSeen 82 = .ok (.iload 6, 2) := by decide +kernel
theorem dL_isSeen_84 : decode cL_isSeen 84 = .ok (.iload_n 2, 1) := by decide +kernel
theorem dL_isSeen_85 : decode cL_isSeen 85 = .ok (.idiv, 1) := by decide +kernel
theorem dL_isSeen_86 : decode cL_isSeen 86 = .ok (.iload 8, 2) := by decide +kernel
theorem dL_isSeen_88 : decode cL_isSeen 88 = .ok (.iload 10, 2) := by decide +kernel
theorem dL_isSeen_90 : decode cL_isSeen 90 = .ok (.invokevirtual 55, 3) := by decide +kernel
theorem dL_isSeen_93 : decode cL_isSeen 93 = .ok (.istore 11, 2) := by decide +kernel
theorem dL_isSeen_95 : decode cL_isSeen 95 = .ok (.iload 5, 2) := by decide +kernel
theorem dL_isSeen_97 : decode cL_isSeen 97 = .ok (.iload 11, 2) := by decide +kernel
theorem dL_isSeen_99 : decode cL_isSeen 99 = .ok (.ifCond .le 7, 3) := by decide +kernel
theorem dL_isSeen_102 : decode cL_isSeen 102 = .ok (.iconst 1, 1) := by decide +kernel
theorem dL_isSeen_103 : decode cL_isSeen 103 = .ok (.goto 4, 3) := by decide +kernel
theorem dL_isSeen_106 : decode cL_isSeen 106 = .ok (.iconst 0, 1) := by decide +kernel
theorem dL_isSeen_107 : decode cL_isSeen 107 = .ok (.iadd, 1) := by decide +kernel
theorem dL_isSeen_108 : decode cL_isSeen 108 = .ok (.istore 5, 2) := by decide +kernel
theorem dL_isSeen_110 : decode cL_isSeen 110 = .ok (.iload 11, 2) := by decide +kernel
theorem dL_isSeen_112 : decode cL_isSeen 112 = .ok (.ifCond .lt 19, 3) := by decide +kernel
theorem dL_isSeen_115 : decode cL_isSeen 115 = .ok (.iload 11, 2) := by decide +kernel
theorem dL_isSeen_117 : decode cL_isSeen 117 = .ok (.iconst 2, 1) := by decide +kernel
theorem dL_isSeen_118 : decode cL_isSeen 118 = .ok (.if_icmp .gt 13, 3) := by decide +kernel
theorem dL_isSeen_121 : decode cL_isSeen 121 = .ok (.iload 11, 2) := by decide +kernel
theorem dL_isSeen_123 : decode cL_isSeen 123 = .ok (.ifCond .le 10, 3) := by decide +kernel
theorem dL_isSeen_126 : decode cL_isSeen 126 = .ok (.iload 9, 2) := by decide +kernel
theorem dL_isSeen_128 : decode cL_isSeen 128 = .ok (.ifCond .ne 5, 3) := by decide +kernel
theorem dL_isSeen_131 : decode cL_isSeen 131 = .ok (.iconst 0, 1) := by decide +kernel
theorem dL_isSeen_132 : decode cL_isSeen 132 = .ok (.ireturn, 1) := by decide +kernel
theorem dL_isSeen_133 : decode cL_isSeen 133 = .ok (.iinc 10 1, 3) := by decide +kernel
theorem dL_isSeen_136 : decode cL_isSeen 136 = .ok (.goto (-65), 3) := by decide +kernel
theorem dL_isSeen_139 : decode cL_isSeen 139 = .ok (.iinc 8 1, 3) := by decide +kernel
theorem dL_isSeen_142 : decode cL_isSeen 142 = .ok (.goto (-117), 3) := by decide +kernel
theorem dL_isSeen_145 : decode cL_isSeen 145 = .ok (.aload_n 0, 1) := by decide +kernel
theorem dL_isSeen_146 : decode cL_isSeen 146 = .ok (.iload 6, 2) := by decide +kernel
theorem dL_isSeen_148 : decode cL_isSeen 148 = .ok (.iload_n 2, 1) := by decide +kernel
theorem dL_isSeen_149 : decode cL_isSeen 149 = .ok (.irem, 1) := by decide +kernel
theorem dL_isSeen_150 : decode cL_isSeen 150 = .ok (.iload 6, 2) := by decide +kernel
theorem dL_isSeen_152 : decode cL_isSeen 152 = .ok (.iload_n 2, 1) := by decide +kernel
theorem dL_isSeen_153 : decode cL_isSeen 153 = .ok (.idiv, 1) := by decide +kernel
theorem dL_isSeen_154 : decode cL_isSeen 154 = .ok (.iconst 3, 1) := by decide +kernel
theorem dL_isSeen_155 : decode cL_isSeen 155 = .ok (.invokevirtual 36, 3) := by decide +kernel
theorem dL_isSeen_158 : decode cL_isSeen 158 = .ok (.iload 7, 2) := by decide +kernel
theorem dL_isSeen_160 : decode cL_isSeen 160 = .ok (.if_icmp .eq 5, 3) := by decide +kernel
theorem dL_isSeen_163 : decode cL_isSeen 163 = .ok (.iconst 0, 1) := by decide +kernel
theorem dL_isSeen_164 : decode cL_isSeen 164 = .ok (.ireturn, 1) := by decide +kernel
theorem dL_isSeen_165 : decode cL_isSeen 165 = .ok (.iload_n 3, 1) := by decide +kernel
theorem dL_isSeen_166 : decode cL_isSeen 166 = .ok (.iload 7, 2) := by decide +kernel
theorem dL_isSeen_168 : decode cL_isSeen 168 = .ok (.iadd, 1) := by decide +kernel
theorem dL_isSeen_169 : decode cL_isSeen 169 = .ok (.istore_n 3, 1) := by decide +kernel
theorem dL_isSeen_170 : decode cL_isSeen 170 = .ok (.iload 4, 2) := by decide +kernel
theorem dL_isSeen_172 : decode cL_isSeen 172 = .ok (.aload_n 1, 1) := by decide +kernel
theorem dL_isSeen_173 : decode cL_isSeen 173 = .ok (.bipush 6, 2) := by decide +kernel
theorem dL_isSeen_175 : decode cL_isSeen 175 = .ok (.iload 6, 2) := by decide +kernel
theorem dL_isSeen_177 : decode cL_isSeen 177 = .ok (.iload_n 2, 1) := by decide +kernel
theorem dL_isSeen_178 : decode cL_isSeen 178 = .ok (.idiv, 1) := by decide +kernel
theorem dL_isSeen_179 : decode cL_isSeen 179 = .ok (.imul, 1) := by decide +kernel
theorem dL_isSeen_180 : decode cL_isSeen 180 = .ok (.iload 6, 2) := by decide +kernel
theorem dL_isSeen_182 : decode cL_isSeen 182 = .ok (.iload_n 2, 1) := by decide +kernel
theorem dL_isSeen_183 : decode cL_isSeen 183 = .ok (.irem, 1) := by decide +kernel
theorem dL_isSeen_184 : decode cL_isSeen 184 = .ok (.iadd, 1) := by decide +kernel
theorem dL_isSeen_185 : decode cL_isSeen 185 = .ok (.iaload, 1) := by decide +kernel
theorem dL_isSeen_186 : decode cL_isSeen 186 = .ok (.iadd, 1) := by decide +kernel
theorem dL_isSeen_187 : decode cL_isSeen 187 = .ok (.istore 4, 2) := by decide +kernel
theorem dL_isSeen_189 : decode cL_isSeen 189 = .ok (.iinc 6 1, 3) := by decide +kernel
theorem dL_isSeen_192 : decode cL_isSeen 192 = .ok (.goto (-181), 3) := by decide +kernel
theorem dL_isSeen_195 : decode cL_isSeen 195 = .ok (.aload_n 0, 1) := by decide +kernel
theorem dL_isSeen_196 : decode cL_isSeen 196 = .ok (.iconst 1, 1) := by decide +kernel
theorem dL_isSeen_197 : decode cL_isSeen 197 = .ok (.invokevirtual 33, 3) := by decide +kernel
theorem dL_isSeen_200 : decode cL_isSeen 200 = .ok (.iload 4, 2) := by decide +kernel
theorem dL_isSeen_202 : decode cL_isSeen 202 = .ok (.if_icmp .ne 49, 3) := by decide +kernel
theorem dL_isSeen_205 : decode cL_isSeen 205 = .ok (.aload_n 0, 1) := by decide +kernel
theorem dL_isSeen_206 : decode cL_isSeen 206 = .ok (.iconst 2, 1) := by decide +kernel
theorem dL_isSeen_207 : decode cL_isSeen 207 = .ok (.invokevirtual 33, 3) := by decide +kernel
theorem dL_isSeen_210 : decode cL_isSeen 210 = .ok (.iload_n 3, 1) := by decide +kernel
theorem dL_isSeen_211 : decode cL_isSeen 211 = .ok (.if_icmp .ne 40, 3) := by decide +kernel
theorem dL_isSeen_214 : decode cL_isSeen 214 = .ok (.aload_n 0, 1) := by decide +kernel
theorem dL_isSeen_215 : decode cL_isSeen 215 = .ok (.iconst 3, 1) := by decide +kernel
theorem dL_isSeen_216 : decode cL_isSeen 216 = .ok (.invokevirtual 33, 3) := by decide +kernel
theorem dL_isSeen_219 : decode cL_isSeen 219 = .ok (.iload 5, 2) := by decide +kernel
theorem dL_isSeen_221 : decode cL_isSeen 221 = .ok (.if_icmp .ne 30, 3) := by decide +kernel
theorem dL_isSeen_224 : decode cL_isSeen 224 = .ok (.aload_n 0, 1) := by decide +kernel
theorem dL_isSeen_225 : decode cL_isSeen 225 = .ok (.invokevirtual 58, 3) := by decide +kernel
theorem dL_isSeen_228 : decode cL_isSeen 228 = .ok (.iload 4, 2) := by decide +kernel
theorem dL_isSeen_230 : decode cL_isSeen 230 = .ok (.ifCond .ne 7, 3) := by decide +kernel
theorem dL_isSeen_233 : decode cL_isSeen 233 = .ok (.dconst 1, 1) := by decide +kernel
theorem dL_isSeen_234 : decode cL_isSeen 234 = .ok (.goto 9, 3) := by decide +kernel
theorem dL_isSeen_237 : decode cL_isSeen 237 = .ok (.iload_n 3, 1) := by decide +kernel
theorem dL_isSeen_238 : decode cL_isSeen 238 = .ok (.i2d, 1) := by decide +kernel
theorem dL_isSeen_239 : decode cL_isSeen 239 = .ok (.iload 4, 2) := by decide +kernel
theorem dL_isSeen_241 : decode cL_isSeen 241 = .ok (.i2d, 1) := by decide +kernel
theorem dL_isSeen_242 : decode cL_isSeen 242 = .ok (.ddiv, 1) := by decide +kernel
theorem dL_isSeen_243 : decode cL_isSeen 243 = .ok (.dcmp .l, 1) := by decide +kernel
theorem dL_isSeen_244 : decode cL_isSeen 244 = .ok (.ifCond .ne 7, 3) := by decide +kernel
theorem dL_isSeen_247 : decode cL_isSeen 247 = .ok (.iconst 1, 1) := by decide +kernel
theorem dL_isSeen_248 : decode cL_isSeen 248 = .ok (.goto 4, 3) := by decide +kernel
theorem dL_isSeen_251 : decode cL_isSeen 251 = .ok (.iconst 0, 1) := by decide +kernel
theorem dL_isSeen_252 : decode cL_isSeen 252 = .ok (.ireturn, 1) := by decide +kernel
set_option maxRecDepth 20000 in
theorem ggL_shaded_L_is : GoodIn wsL_shaded wsL_is := goodIn_r _ [4] (by decide +kernel) (by decide +kernel)
set_option maxRecDepth 20000 in
theorem gL_shaded_L_is : GoodIn wsL_shaded (va_wsS RL 39 yL_is wsL_is) := goodIn_app (goodIn_of _ (by decide +kernel)) ggL_shaded_L_is
set_option maxRecDepth 20000 in
theorem ggL_shaded_X4_stack : GoodIn wsL_shaded wsX4_stack := goodIn_ca (goodIn_ca (goodIn_r _ [9, 10, 11, 12, 13, 8, 14, 15, 16, 17, 18, 19, 20, 21, 22, 23, 24, 25, 26, 27, 28, 29, 30, 31, 32, 33, 34, 35, 36, 37, 38, 39, 40, 41, 42, 43, 44, 45, 46, 47, 48, 49, 50, 51, 52, 53, 54, 55, 56, 57, 58, 59, 60, 61, 62, 63, 64, 65, 66, 67, 68, 69, 70, 71, 72, 73, 74, 75, 76, 77, 78, 79, 80, 81, 82, 83, 84, 85, 86, 87, 88, 89, 90, 91, 92, 93, 94, 95, 96, 97, 98, 99, 100, 101, 102, 103, 104, 105, 106, 107, 108, 109, 110, 111, 112, 113, 114, 115, 116, 117, 118, 119, 120, 121, 122, 123, 124, 125, 126, 127, 128, 129, 130, 131, 132, 133, 134, 135, 136, 137, 138, 139] (by decide +kernel) (by decide +kernel)) (goodIn_sub (fun _ h => List.mem_cons_of_mem _ (List.mem_append_left _ (List.mem_append_right _ h))) (by decide +kernel))) (goodIn_sub (fun _ h => List.mem_cons_of_mem _ (List.mem_append_right _ h)) (by decide +kernel))
set_option maxRecDepth 20000 in
theorem gL_shaded_X4_stack : GoodIn wsL_shaded (wsV RL 36 RX4 yX4_stack wsX4_stack) := goodIn_app (goodIn_of _ (by decide +kernel)) ggL_shaded_X4_stack
theorem dL_shaded_0 : decode cL_shaded 0 = .ok (.iload_n 3, 1) := by decide +kernel
theorem dL_shaded_1 : decode cL_shaded 1 = .ok (.bipush 7, 2) := by decide +kernel
theorem dL_shaded_3 : decode cL_shaded 3 = .ok (.if_icmp .eq 8, 3) := by decide +kernel
theorem dL_shaded_6 : decode cL_shaded 6 = .ok (.iload_n 3, 1) := by decide +kernel
theorem dL_shaded_7 : decode cL_shaded 7 = .ok (.iconst 2, 1) := by decide +kernel
theorem dL_shaded_8 : decode cL_shaded 8 = .ok (.if_icmp .ge 7, 3) := by decide +kernel
theorem dL_shaded_11 : decode cL_shaded 11 = .ok (.iconst 1, 1) := by decide +kernel
theorem dL_shaded_12 : decode cL_shaded 12 = .ok (.goto 19, 3) := by decide +kernel
theorem dL_shaded_15 : decode cL_shaded 15 = .ok (.iload_n 3, 1) := by decide +kernel
theorem dL_shaded_16 : decode cL_shaded 16 = .ok (.iconst 2, 1) := by decide +kernel
theorem dL_shaded_17 : decode cL_shaded 17 = .ok (.if_icmp .le 13, 3) := by decide +kernel
theorem dL_shaded_20 : decode cL_shaded 20 = .ok (.iload_n 3, 1) := by decide +kernel
theorem dL_shaded_21 : decode cL_shaded 21 = .ok (.bipush 6, 2) := by decide +kernel
theorem dL_shaded_23 : decode cL_shaded 23 = .ok (.if_icmp .ge 7, 3) := by decide +kernel
theorem dL_shaded_26 : decode cL_shaded 26 = .ok (.iconst (-1), 1) := by decide +kernel
theorem dL_shaded_27 : decode cL_shaded 27 = .ok (.goto 4, 3) := by decide +kernel
theorem dL_shaded_30 : decode cL_shaded 30 = .ok (.iconst 0, 1) := by decide +kernel
theorem dL_shaded_31 : decode cL_shaded 31 = .ok (.istore 5, 2) := by decide +kernel
theorem dL_shaded_33 : decode cL_shaded 33 = .ok (.iload_n 3, 1) := by decide +kernel
theorem dL_shaded_34 : decode cL_shaded 34 = .ok (.ifCond .le 12, 3) := by decide +kernel
theorem dL_shaded_37 : decode cL_shaded 37 = .ok (.iload_n 3, 1) := by decide +kernel
theorem dL_shaded_38 : decode cL_shaded 38 = .ok (.iconst 4, 1) := by decide +kernel
theorem dL_shaded_39 : decode cL_shaded 39 = .ok (.if_icmp .ge 7, 3) := by decide +kernel
theorem dL_shaded_42 : decode cL_shaded 42 = .ok (.iconst 1, 1) := by decide +kernel
theorem dL_shaded_43 : decode cL_shaded 43 = .ok (.goto 13, 3) := by decide +kernel
theorem dL_shaded_46 : decode cL_shaded 46 = .ok (.iload_n 3, 1) := by decide +kernel
theorem dL_shaded_47 : decode cL_shaded 47 = .ok (.iconst 4, 1) := by decide +kernel
theorem dL_shaded_48 : decode cL_shaded 48 = .ok (.if_icmp .le 7, 3) := by decide +kernel
theorem dL_shaded_51 : decode cL_shaded 51 = .ok (.iconst (-1), 1) := by decide +kernel
theorem dL_shaded_52 : decode cL_shaded 52 = .ok (.goto 4, 3) := by decide +kernel
theorem dL_shaded_55 : decode cL_shaded 55 = .ok (.iconst 0, 1) := by decide +kernel
theorem dL_shaded_56 : decode cL_shaded 56 = .ok (.istore 6, 2) := by decide +kernel
theorem dL_shaded_58 : decode cL_shaded 58 = .ok (.iload_n 3, 1) := by decide +kernel
theorem dL_shaded_59 : decode cL_shaded 59 = .ok (.iconst 2, 1) := by decide +kernel
theorem dL_shaded_60 : decode cL_shaded 60 = .ok (.if_icmp .eq 8, 3) := by decide +kernel
theorem dL_shaded_63 : decode cL_shaded 63 = .ok (.iload_n 3, 1) := by decide +kernel
theorem dL_shaded_64 : decode cL_shaded 64 = .ok (.iconst 3, 1) := by decide +kernel
theorem dL_shaded_65 : decode cL_shaded 65 = .ok (.if_icmp .ne 7, 3) := by decide +kernel
theorem dL_shaded_68 : decode cL_shaded 68 = .ok (.iconst 3, 1) := by decide +kernel
theorem dL_shaded_69 : decode cL_shaded 69 = .ok (.goto 18, 3) := by decide +kernel
theorem dL_shaded_72 : decode cL_shaded 72 = .ok (.iload_n 3, 1) := by decide +kernel
theorem dL_shaded_73 : decode cL_shaded 73 = .ok (.iconst 1, 1) := by decide +kernel
theorem dL_shaded_74 : decode cL_shaded 74 = .ok (.if_icmp .eq 8, 3) := by decide +kernel
theorem dL_shaded_77 : decode cL_shaded 77 = .ok (.iload_n 3, 1) := by decide +kernel
theorem dL_shaded_78 : decode cL_shaded 78 = .ok (.iconst 4, 1) := by decide +kernel
theorem dL_shaded_79 : decode cL_shaded 79 = .ok (.if_icmp .ne 7, 3) := by decide +kernel
theorem dL_shaded_82 : decode cL_shaded 82 = .ok (.iconst 2, 1) := by decide +kernel
theorem dL_shaded_83 : decode cL_shaded 83 = .ok (.goto 4, 3) := by decide +kernel
theorem dL_shaded_86 : decode cL_shaded 86 = .ok (.iconst 1, 1) := by decide +kernel
theorem dL_shaded_87 : decode cL_shaded 87 = .ok (.istore 7, 2) := by decide +kernel
theorem dL_shaded_89 : decode cL_shaded 89 = .ok (.iconst 0, 1) := by decide +kernel
theorem dL_shaded_90 : decode cL_shaded 90 = .ok (.istore 8, 2) := by decide +kernel
theorem dL_shaded_92 : decode cL_shaded 92 = .ok (.iconst 0, 1) := by decide +kernel
theorem dL_shaded_93 : decode cL_shaded 93 = .ok (.istore 9, 2) := by decide +kernel
theorem dL_shaded_95 : decode cL_shaded 95 = .ok (.iload 9, 2) := by decide +kernel
theorem dL_shaded_97 : decode cL_shaded 97 = .ok (.iload_n 2, 1) := by decide +kernel
theorem dL_shaded_98 : decode cL_shaded 98 = .ok (.iload_n 2, 1) := by decide +kernel
theorem dL_shaded_99 : decode cL_shaded 99 = .ok (.imul, 1) := by decide +kernel
theorem dL_shaded_100 : decode cL_shaded 100 = .ok (.if_icmp .ge 149, 3) := by decide +kernel
theorem dL_shaded_103 : decode cL_shaded 103 = .ok (.iload 9, 2) := by decide +kernel
theorem dL_shaded_105 : decode cL_shaded 105 = .ok (.iload_n 2, 1) := by decide +kernel
theorem dL_shaded_106 : decode cL_shaded 106 = .ok (.irem, 1) := by decide +kernel
theorem dL_shaded_107 : decode cL_shaded 107 = .ok (.istore 10, 2) := by decide +kernel
theorem dL_shaded_109 : decode cL_shaded 109 = .ok (.iload 9, 2) := by decide +kernel
theorem dL_shaded_111 : decode cL_shaded 111 = .ok (.iload_n 2, 1) := by decide +kernel
theorem dL_shaded_112 : decode cL_shaded 112 = .ok (.idiv, 1) := by decide +kernel
theorem dL_shaded_113 : decode cL_shaded 113 = .ok (.istore 11, 2) := by decide +kernel
theorem dL_shaded_115 : decode cL_shaded 115 = .ok (.iconst 0, 1) := by decide +kernel
theorem dL_shaded_116 : decode cL_shaded 116 = .ok (.istore 12, 2) := by decide +kernel
theorem dL_shaded_118 : decode cL_shaded 118 = .ok (.aload_n 1, 1) := by decide +kernel
theorem dL_shaded_119 : decode cL_shaded 119 = .ok (.bipush 6, 2) := by decide +kernel
theorem dL_shaded_121 : decode cL_shaded 121 = .ok (.iload 11, 2) := by decide +kernel
theorem dL_shaded_123 : decode cL_shaded 123 = .ok (.imul, 1) := by decide +kernel
theorem dL_shaded_124 : decode cL_shaded 124 = .ok (.iload 10, 2) := by decide +kernel
theorem dL_shaded_126 : decode cL_shaded 126 = .ok (.iadd, 1) := by decide +kernel
theorem dL_shaded_127 : decode cL_shaded 127 = .ok (.iaload, 1) := by decide +kernel
theorem dL_shaded_128 : decode cL_shaded 128 = .ok (.istore 13, 2) := by decide +kernel
theorem dL_shaded_130 : decode cL_shaded 130 = .ok (.iconst 1, 1) := by decide +kernel
theorem dL_shaded_131 : decode cL_shaded 131 = .ok (.istore 14, 2) := by decide +kernel
theorem dL_shaded_133 : decode cL_shaded 133 = .ok (.iload 14, 2) := by decide +kernel
theorem dL_shaded_135 : decode cL_shaded 135 = .ok (.bipush 8, 2) := by decide +kernel
theorem dL_shaded_137 : decode cL_shaded 137 = .ok (.if_icmp .ge 58, 3) := by decide +kernel
theorem dL_shaded_140 : decode cL_shaded 140 = .ok (.iload 10, 2) := by decide +kernel
theorem dL_shaded_142 : decode cL_shaded 142 = .ok (.iload 5, 2) := by decide +kernel
theorem dL_shaded_144 : decode cL_shaded 144 = .ok (.iadd, 1) := by decide +kernel
theorem dL_shaded_145 : decode cL_shaded 145 = .ok (.istore 10, 2) := by decide +kernel
theorem dL_shaded_147 : decode cL_shaded 147 = .ok (.iload 11, 2) := by decide +kernel
theorem dL_shaded_149 : decode cL_shaded 149 = .ok (.iload 6, 2) := by decide +kernel
theorem dL_shaded_151 : decode cL_shaded 151 = .ok (.iadd, 1) := by decide +kernel
theorem dL_shaded_152 : decode cL_shaded 152 = .ok (.istore 11, 2) := by decide +kernel
theorem dL_shaded_154 : decode cL_shaded 154 = .ok (.iload 13, 2) := by decide +kernel
theorem dL_shaded_156 : decode cL_shaded 156 = .ok (.iload 7, 2) := by decide +kernel
theorem dL_shaded_158 : decode cL_shaded 158 = .ok (.iadd, 1) := by decide +kernel
theorem dL_shaded_159 : decode cL_shaded 159 = .ok (.istore 13, 2) := by decide +kernel
theorem dL_shaded_161 : decode cL_shaded 161 = .ok (.iload 12, 2) := by decide +kernel
theorem dL_shaded_163 : decode cL_shaded 163 = .ok (.ifCond .ne 19, 3) := by decide +kernel
theorem dL_shaded_166 : decode cL_shaded 166 = .ok (.aload_n 1, 1) := by decide +kernel
theorem dL_shaded_167 : decode cL_shaded 167 = .ok (.iload_n 2, 1) := by decide +kernel
theorem dL_shaded_168 : decode cL_shaded 168 = .ok (.iload 10, 2) := by decide +kernel
theorem dL_shaded_170 : decode cL_shaded 170 = .ok (.iload 11, 2) := by decide +kernel
theorem dL_shaded_172 : decode cL_shaded 172 = .ok (.iload 13, 2) := by decide +kernel
theorem dL_shaded_174 : decode cL_shaded 174 = .ok (.iconst 1, 1) := by decide +kernel
theorem dL_shaded_175 : decode cL_shaded 175 = .ok (.isub, 1) := by decide +kernel
theorem dL_shaded_176 : decode cL_shaded 176 = .ok (.invokestatic 39, 3) := by decide +kernel
theorem dL_shaded_179 : decode cL_shaded 179 = .ok (.ifCond .eq 7, 3) := by decide +kernel
theorem dL_shaded_182 : decode cL_shaded 182 = .ok (.iconst 1, 1) := by decide +kernel
theorem dL_shaded_183 : decode cL_shaded 183 = .ok (.goto 4, 3) := by decide +kernel
theorem dL_shaded_186 : decode cL_shaded 186 = .ok (.iconst 0, 1) := by decide +kernel
theorem dL_shaded_187 : decode cL_shaded 187 = .ok (.istore 12, 2) := by decide +kernel
theorem dL_shaded_189 : decode cL_shaded 189 = .ok (.iinc 14 1, 3) := by decide +kernel
theorem dL_shaded_192 : decode cL_shaded 192 = .ok (.goto (-59), 3) := by decide +kernel
theorem dL_shaded_195 : decode cL_shaded 195 = .ok (.iload 8, 2) := by decide +kernel
theorem dL_shaded_197 : decode cL_shaded 197 = .ok (.iload 12, 2) := by decide +kernel
theorem dL_shaded_199 : decode cL_shaded 199 = .ok (.ifCond .eq 7, 3) := by decide +kernel
theorem dL_shaded_202 : decode cL_shaded 202 = .ok (.iconst 1, 1) := by decide +kernel
theorem dL_shaded_203 : decode cL_shaded 203 = .ok (.goto 4, 3) := by decide +kernel
theorem dL_shaded_206 : decode cL_shaded 206 = .ok (.iconst 0, 1) := by decide +kernel
theorem dL_shaded_207 : decode cL_shaded 207 = .ok (.iadd, 1) := by decide +kernel
theorem dL_shaded_208 : decode cL_shaded 208 = .ok (.istore 8, 2) := by decide +kernel
theorem dL_shaded_210 : decode cL_shaded 210 = .ok (.iload 4, 2) := by decide +kernel
theorem dL_shaded_212 : decode cL_shaded 212 = .ok (.ifCond .eq 31, 3) := by decide +kernel
theorem dL_shaded_215 : decode cL_shaded 215 = .ok (.aload_n 0, 1) := by decide +kernel
theorem dL_shaded_216 : decode cL_shaded 216 = .ok (.iload 9, 2) := by decide +kernel
theorem dL_shaded_218 : decode cL_shaded 218 = .ok (.iload_n 2, 1) := by decide +kernel
theorem dL_shaded_219 : decode cL_shaded 219 = .ok (.irem, 1) := by decide +kernel
theorem dL_shaded_220 : decode cL_shaded 220 = .ok (.iload 9, 2) := by decide +kernel
theorem dL_shaded_222 : decode cL_shaded 222 = .ok (.iload_n 2, 1) := by decide +kernel
theorem dL_shaded_223 : decode cL_shaded 223 = .ok (.idiv, 1) := by decide +kernel
theorem dL_shaded_224 : decode cL_shaded 224 = .ok (.iconst 2, 1) := by decide +kernel
theorem dL_shaded_225 : decode cL_shaded 225 = .ok (.invokevirtual 36, 3) := by decide +kernel
theorem dL_shaded_228 : decode cL_shaded 228 = .ok (.iload 12, 2) := by decide +kernel
theorem dL_shaded_230 : decode cL_shaded 230 = .ok (.ifCond .eq 7, 3) := by decide +kernel
theorem dL_shaded_233 : decode cL_shaded 233 = .ok (.iconst 1, 1) := by decide +kernel
theorem dL_shaded_234 : decode cL_shaded 234 = .ok (.goto 4, 3) := by decide +kernel
theorem dL_shaded_237 : decode cL_shaded 237 = .ok (.iconst 0, 1) := by decide +kernel
theorem dL_shaded_238 : decode cL_shaded 238 = .ok (.if_icmp .eq 5, 3) := by decide +kernel
theorem dL_shaded_241 : decode cL_shaded 241 = .ok (.iconst (-1), 1) := by decide +kernel
theorem dL_shaded_242 : decode cL_shaded 242 = .ok (.ireturn, 1) := by decide +kernel
theorem dL_shaded_243 : decode cL_shaded 243 = .ok (.iinc 9 1, 3) := by decide +kernel
theorem dL_shaded_246 : decode cL_shaded 246 = .ok (.goto (-151), 3) := by decide +kernel
theorem dL_shaded_249 : decode cL_shaded 249 = .ok (.iload 8, 2) := by decide +kernel
theorem dL_shaded_251 : decode cL_shaded 251 = .ok (.ireturn, 1) := by decide +kernel
set_option maxRecDepth 20000 in
theorem ggL_light_X4_count : GoodIn wsL_light wsX4_count := goodIn_ca (goodIn_r _ [5, 6, 7, 8, 9, 4, 10, 11, 12, 13, 14, 15, 16, 17, 18, 19, 20, 21, 22, 23, 24, 25, 26, 27, 28, 29, 30, 31, 32, 33, 34, 35, 36, 37, 38, 39, 40, 41, 42, 43, 44, 45, 46, 47, 48, 49, 50, 51, 52, 53, 54, 55, 56, 57, 58, 59, 60, 61, 62, 63, 64, 65, 66, 67, 68, 69, 70, 71, 72, 73, 74, 75, 76, 77, 78, 79, 80, 81, 82, 83, 84, 85, 86, 87, 88, 89, 90, 91, 92, 93, 94, 95, 96, 97, 98, 99, 100, 101, 102, 103, 104, 105, 106, 107, 108, 109, 110, 111, 112, 113, 114, 115, 116, 117, 118, 119, 120, 121, 122, 123, 124, 125, 126, 127, 128, 129, 130, 131, 132, 133, 134, 135, 136, 137, 138, 139, 140, 178, 179, 180, 181, 182, 183, 184, 185, 186, 187, 188, 189, 190, 191, 192, 193, 194, 195, 196, 197, 198] (by decide +kernel) (by decide +kernel)) (goodIn_sub (fun _ h => List.mem_cons_of_mem _ (List.mem_append_left _ (List.mem_append_right _ h))) (by decide +kernel))
set_option maxRecDepth 20000 in
theorem gL_light_X4_count : GoodIn wsL_light (wsV RL 33 RX4 yX4_count wsX4_count) := goodIn_app (goodIn_of _ (by decide +kernel)) ggL_light_X4_count
set_option maxRecDepth 20000 in
theorem ggL_light_L_shaded : GoodIn wsL_light wsL_shaded := goodIn_ca (goodIn_ca (goodIn_r _ [144, 145, 146, 143, 147, 148, 149, 150, 4, 151, 6, 152, 153, 154, 155, 156, 157, 158, 111, 112, 16, 113, 32, 33, 34, 35, 18, 8, 9, 10, 11, 12, 159, 28, 29, 30, 31, 36, 37, 160, 161, 162, 163, 27, 164, 137, 138, 139, 140, 165, 107, 108, 109, 110, 38, 39, 40, 41, 42, 43, 44, 45, 46, 47, 48, 49, 50, 51, 52, 53, 54, 55, 56, 57, 58, 59, 60, 61, 62, 63, 64, 65, 66, 67, 68, 69, 70, 71, 72, 73, 74, 75, 76, 77, 78, 79, 80, 81, 82, 83, 84, 85, 86, 87, 88, 89, 90, 91, 92, 93, 94, 95, 96, 97, 98, 99, 100, 101, 166, 167, 168, 169, 178, 179, 180, 181, 182, 183, 184, 185, 186, 187, 188, 189, 190, 191, 192, 193, 194, 195] (by decide +kernel) (by decide +kernel)) (goodIn_sub (fun _ h => List.mem_cons_of_mem _ (List.mem_append_right _ h)) (by decide +kernel))) (goodIn_sub (fun _ h => List.mem_cons_of_mem _ (List.mem_append_left _ (List.mem_append_right _ h))) (by decide +kernel))
set_option maxRecDepth 20000 in
theorem gL_light_L_shaded : GoodIn wsL_light (va_wsS RL 62 yL_shaded wsL_shaded) := goodIn_app (goodIn_of _ (by decide +kernel)) ggL_light_L_shaded
set_option maxRecDepth 20000 in
theorem ggL_light_X4_ifHour : GoodIn wsL_light wsX4_ifHour := goodIn_ca (goodIn_r _ [173, 6, 8, 9, 4, 10, 11, 12, 102, 103, 104, 16, 105, 18, 106, 107, 108, 109, 36, 37, 27, 28, 29, 30, 31, 32, 33, 34, 35, 110, 111, 112, 113, 178, 179, 180, 181, 182, 183, 184, 185, 186, 187, 188, 189] (by decide +kernel) (by decide +kernel)) (goodIn_sub (fun _ h => List.mem_cons_of_mem _ (List.mem_append_left _ (List.mem_append_right _ h))) (by decide +kernel))
set_option maxRecDepth 20000 in
theorem gL_light_X4_ifHour : GoodIn wsL_light (wsV RL 66 RX4 yX4_ifHour wsX4_ifHour) := goodIn_app (goodIn_of _ (by decide +kernel)) ggL_light_X4_ifHour
set_option maxRecDepth 20000 in
theorem ggL_light_X4_brightest : GoodIn wsL_light wsX4_brightest := goodIn_r _ [177, 6, 102, 103, 104, 16, 105, 18, 106, 107, 108, 109, 36, 4, 37, 27, 28, 29, 30, 31, 32, 33, 34, 35, 110, 111, 112, 113, 178, 179, 180, 181, 182, 183, 184, 185, 186, 187, 188, 189] (by decide +kernel) (by decide +kernel)
set_option maxRecDepth 20000 in
theorem gL_light_X4_brightest : GoodIn wsL_light (wsV RL 69 RX4 yX4_brightest wsX4_brightest) := goodIn_app (goodIn_of _ (by decide +kernel)) ggL_light_X4_brightest
theorem dL_light_0 : decode cL_light 0 = .ok (.iconst 0, 1) := by decide +kernel
theorem dL_light_1 : decode cL_light 1 = .ok (.istore_n 3, 1) := by decide +kernel
theorem dL_light_2 : decode cL_light 2 = .ok (.bipush 99, 2) := by decide +kernel
theorem dL_light_4 : decode cL_light 4 = .ok (.istore 4, 2) := by decide +kernel
theorem dL_light_6 : decode cL_light 6 = .ok (.iconst 0, 1) := by decide +kernel
theorem dL_light_7 : decode cL_light 7 = .ok (.istore 5, 2) := by decide +kernel
theorem dL_light_9 : decode cL_light 9 = .ok (.iload 5, 2) := by decide +kernel
theorem dL_light_11 : decode cL_light 11 = .ok (.bipush 8, 2) := by decide +kernel
theorem dL_light_13 : decode cL_light 13 = .ok (.if_icmp .ge 100, 3) := by decide +kernel
theorem dL_light_16 : decode cL_light 16 = .ok (.aload_n 0, 1) := by decide +kernel
theorem dL_light_17 : decode cL_light 17 = .ok (.aload_n 1, 1) := by decide +kernel
theorem dL_light_18 : decode cL_light 18 = .ok (.iload_n 2, 1) := by decide +kernel
theorem dL_light_19 : decode cL_light 19 = .ok (.iload 5, 2) := by decide +kernel
theorem dL_light_21 : decode cL_light 21 = .ok (.iload 5, 2) := by decide +kernel
theorem dL_light_23 : decode cL_light 23 = .ok (.aload_n 0, 1) := by decide +kernel
theorem dL_light_24 : decode cL_light 24 = .ok (.bipush 11, 2) := by decide +kernel
theorem dL_light_26 : decode cL_light 26 = .ok (.invokevirtual 33, 3) := by decide +kernel
theorem dL_light_29 : decode cL_light 29 = .ok (.if_icmp .ne 7, 3) := by decide +kernel
theorem dL_light_32 : decode cL_light 32 = .ok (.iconst 1, 1) := by decide +kernel
theorem dL_light_33 : decode cL_light 33 = .ok (.goto 4, 3) := by decide +kernel
theorem dL_light_36 : decode cL_light 36 = .ok (.iconst 0, 1) := by decide +kernel
theorem dL_light_37 : decode cL_light 37 = .ok (.invokestatic 62, 3) := by decide +kernel
theorem dL_light_40 : decode cL_light 40 = .ok (.istore 6, 2) := by decide +kernel
theorem dL_light_42 : decode cL_light 42 = .ok (.aload_n 0, 1) := by decide +kernel
theorem dL_light_43 : decode cL_light 43 = .ok (.iload 5, 2) := by decide +kernel
theorem dL_light_45 : decode cL_light 45 = .ok (.invokevirtual 66, 3) := by decide +kernel
theorem dL_light_48 : decode cL_light 48 = .ok (.iload 6, 2) := by decide +kernel
theorem dL_light_50 : decode cL_light 50 = .ok (.if_icmp .ne 25, 3) := by decide +kernel
theorem dL_light_53 : decode cL_light 53 = .ok (.iload 5, 2) := by decide +kernel
theorem dL_light_55 : decode cL_light 55 = .ok (.aload_n 0, 1) := by decide +kernel
theorem dL_light_56 : decode cL_light 56 = .ok (.bipush 11, 2) := by decide +kernel
theorem dL_light_58 : decode cL_light 58 = .ok (.invokevirtual 33, 3) := by decide +kernel
theorem dL_light_61 : decode cL_light 61 = .ok (.if_icmp .ne 16, 3) := by decide +kernel
theorem dL_light_64 : decode cL_light 64 = .ok (.aload_n 0, 1) := by decide +kernel
theorem dL_light_65 : decode cL_light 65 = .ok (.bipush 9, 2) := by decide +kernel
theorem dL_light_67 : decode cL_light 67 = .ok (.invokevirtual 33, 3) := by decide +kernel
theorem dL_light_70 : decode cL_light 70 = .ok (.iload 6, 2) := by decide +kernel
theorem dL_light_72 : decode cL_light 72 = .ok (.if_icmp .eq 5, 3) := by decide +kernel
theorem dL_light_75 : decode cL_light 75 = .ok (.iconst 0, 1) := by decide +kernel
theorem dL_light_76 : decode cL_light 76 = .ok (.ireturn, 1) := by decide +kernel
theorem dL_light_77 : decode cL_light 77 = .ok (.iload 6, 2) := by decide +kernel
theorem dL_light_79 : decode cL_light 79 = .ok (.iload 4, 2) := by decide +kernel
theorem dL_light_81 : decode cL_light 81 = .ok (.if_icmp .ge 8, 3) := by decide +kernel
theorem dL_light_84 : decode cL_light 84 = .ok (.iload 5, 2) := by decide +kernel
theorem dL_light_86 : decode cL_light 86 = .ok (.goto 4, 3) := by decide +kernel
theorem dL_light_89 : decode cL_light 89 = .ok (.iload_n 3, 1) := by decide +kernel
theorem dL_light_90 : decode cL_light 90 = .ok (.istore_n 3, 1) := by decide +kernel
theorem dL_light_91 : decode cL_light 91 = .ok (.iload 6, 2) := by decide +kernel
theorem dL_light_93 : decode cL_light 93 = .ok (.iload 4, 2) := by decide +kernel
theorem dL_light_95 : decode cL_light 95 = .ok (.if_icmp .ge 8, 3) := by decide +kernel
theorem dL_light_98 : decode cL_light 98 = .ok (.iload 6, 2) := by decide +kernel
theorem dL_light_100 : decode cL_light 100 = .ok (.goto 5, 3) := by decide +kernel
theorem dL_light_103 : decode cL_light 103 = .ok (.iload 4, 2) := by decide +kernel
theorem dL_light_105 : decode cL_light 105 = .ok (.istore 4, 2) := by decide +kernel
theorem dL_light_107 : decode cL_light 107 = .ok (.iinc 5 1, 3) := by decide +kernel
theorem dL_light_110 : decode cL_light 110 = .ok (.goto (-101), 3) := by decide +kernel
theorem dL_light_113 : decode cL_light 113 = .ok (.aload_n 0, 1) := by decide +kernel
theorem dL_light_114 : decode cL_light 114 = .ok (.invokevirtual 69, 3) := by decide +kernel
theorem dL_light_117 : decode cL_light 117 = .ok (.iload_n 3, 1) := by decide +kernel
theorem dL_light_118 : decode cL_light 118 = .ok (.if_icmp .ne 7, 3) := by decide +kernel
theorem dL_light_121 : decode cL_light 121 = .ok (.iconst 1, 1) := by decide +kernel
theorem dL_light_122 : decode cL_light 122 = .ok (.goto 4, 3) := by decide +kernel
theorem dL_light_125 : decode cL_light 125 = .ok (.iconst 0, 1) := by decide +kernel
theorem dL_light_126 : decode cL_light 126 = .ok (.ireturn, 1) := by decide +kernel
set_option maxRecDepth 20000 in
theorem ggL_sides_X4_elevation : GoodIn wsL_sides wsX4_elevation := goodIn_ca (goodIn_ca (goodIn_r _ [6, 7, 8, 9, 10, 5, 11, 12, 13, 14, 15, 16, 17, 18, 19, 20, 21, 22, 23, 24, 25, 26, 27, 28, 29, 30, 31, 32, 33, 34, 35, 36, 37, 38, 39, 40, 41, 42, 43, 44, 45, 46, 47, 48, 49, 50, 51, 186, 187, 188, 189, 190, 191, 192, 193, 194, 195, 196, 197] (by decide +kernel) (by decide +kernel)) (goodIn_sub (fun _ h => List.mem_cons_of_mem _ (List.mem_append_left _ (List.mem_append_right _ h))) (by decide +kernel))) (goodIn_sub (fun _ h => List.mem_cons_of_mem _ (List.mem_append_right _ h)) (by decide +kernel))
set_option maxRecDepth 20000 in
theorem gL_sides_X4_elevation : GoodIn wsL_sides (wsV RL 73 RX4 yX4_elevation wsX4_elevation) := goodIn_app (goodIn_of _ (by decide +kernel)) ggL_sides_X4_elevation
set_option maxRecDepth 20000 in
theorem ggL_sides_L_is : GoodIn wsL_sides wsL_is := goodIn_r _ [55] (by decide +kernel) (by decide +kernel)
set_option maxRecDepth 20000 in
theorem gL_sides_L_is : GoodIn wsL_sides (va_wsS RL 39 yL_is wsL_is) := goodIn_app (goodIn_of _ (by decide +kernel)) ggL_sides_L_is
set_option maxRecDepth 20000 in
theorem ggL_sides_X4_cut : GoodIn wsL_sides wsX4_cut := goodIn_ca (goodIn_ca (goodIn_r _ [59, 7, 8, 9, 10, 5, 11, 12, 13, 14, 15, 16, 17, 18, 60, 34, 35, 22, 36, 37, 38, 39, 40, 41, 24, 42, 43, 186, 187, 188, 189, 190, 191, 192, 193, 194, 195, 196, 197] (by decide +kernel) (by decide +kernel)) (goodIn_sub (fun _ h => List.mem_cons_of_mem _ (List.mem_append_left _ (List.mem_append_right _ h))) (by decide +kernel))) (goodIn_sub (fun _ h => List.mem_cons_of_mem _ (List.mem_append_right _ h)) (by decide +kernel))
set_option maxRecDepth 20000 in
theorem gL_sides_X4_cut : GoodIn wsL_sides (wsV RL 76 RX4 yX4_cut wsX4_cut) := goodIn_app (goodIn_of _ (by decide +kernel)) ggL_sides_X4_cut
set_option maxRecDepth 20000 in
theorem ggL_sides_X4_count : GoodIn wsL_sides wsX4_count := goodIn_ca (goodIn_r _ [64, 7, 65, 14, 15, 5, 16, 17, 18, 66, 67, 68, 22, 69, 24, 70, 49, 50, 51, 29, 30, 31, 32, 33, 34, 35, 36, 37, 38, 39, 40, 41, 42, 43, 71, 72, 73, 74, 75, 76, 77, 78, 79, 80, 81, 82, 83, 84, 85, 86, 87, 88, 89, 90, 91, 92, 93, 94, 95, 96, 97, 98, 99, 100, 101, 102, 103, 104, 105, 106, 107, 108, 109, 110, 111, 112, 113, 114, 115, 116, 117, 118, 119, 120, 121, 122, 123, 124, 125, 126, 127, 128, 129, 130, 131, 132, 133, 134, 135, 136, 137, 138, 139, 140, 141, 142, 143, 144, 145, 146, 147, 148, 149, 150, 25, 26, 27, 28, 151, 20, 21, 23, 152, 153, 154, 155, 156, 157, 158, 159, 160, 161, 162, 163, 164, 165, 166, 186, 187, 188, 189, 190, 191, 192, 193, 194, 195, 196, 197, 198, 199, 200, 201, 202, 203, 204, 205, 206] (by decide +kernel) (by decide +kernel)) (goodIn_sub (fun _ h => List.mem_cons_of_mem _ (List.mem_append_right _ h)) (by decide +kernel))
set_option maxRecDepth 20000 in
theorem gL_sides_X4_count : GoodIn wsL_sides (wsV RL 33 RX4 yX4_count wsX4_count) := goodIn_app (goodIn_of _ (by decide +kernel)) ggL_sides_X4_count
set_option maxRecDepth 20000 in
theorem ggL_sides_X4_same : GoodIn wsL_sides wsX4_same := goodIn_ca (goodIn_r _ [170, 7, 14, 15, 5, 16, 17, 18, 171, 172, 173, 22, 174, 25, 26, 27, 28, 175, 176, 177, 178, 24, 151, 20, 21, 23, 29, 30, 31, 32, 33, 34, 35, 36, 37, 38, 39, 40, 41, 42, 43, 179, 180, 181, 182, 183, 184, 185, 186, 187, 188, 189, 190, 191, 192, 193, 194, 195, 196, 197] (by decide +kernel) (by decide +kernel)) (goodIn_sub (fun _ h => List.mem_cons_of_mem _ (List.mem_append_right _ h)) (by decide +kernel))
set_option maxRecDepth 20000 in
theorem gL_sides_X4_same : GoodIn wsL_sides (wsV RL 79 RX4 yX4_same wsX4_same) := goodIn_app (goodIn_of _ (by decide +kernel)) ggL_sides_X4_same
theorem dL_sides_0 : decode cL_sides 0 = .ok (.iconst 0, 1) := by decide +kernel
theorem dL_sides_1 : decode cL_sides 1 = .ok (.istore_n 3, 1) := by decide +kernel
theorem dL_sides_2 : decode cL_sides 2 = .ok (.iconst 0, 1) := by decide +kernel
theorem dL_sides_3 : decode cL_sides 3 = .ok (.istore 4, 2) := by decide +kernel
theorem dL_sides_5 : decode cL_sides 5 = .ok (.bipush 9, 2) := by decide +kernel
theorem dL_sides_7 : decode cL_sides 7 = .ok (.newarray .int, 2) := by decide +kernel
theorem dL_sides_9 : decode cL_sides 9 = .ok (.astore 5, 2) := by decide +kernel
theorem dL_sides_11 : decode cL_sides 11 = .ok (.bipush 9, 2) := by decide +kernel
theorem dL_sides_13 : decode cL_sides 13 = .ok (.newarray .int, 2) := by decide +kernel
theorem dL_sides_15 : decode cL_sides 15 = .ok (.astore 6, 2) := by decide +kernel
theorem dL_sides_17 : decode cL_sides 17 = .ok (.iconst 0, 1) := by decide +kernel
theorem dL_sides_18 : decode cL_sides 18 = .ok (.istore 7, 2) := by decide +kernel
theorem dL_sides_20 : decode cL_sides 20 = .ok (.iload 7, 2) := by decide +kernel
theorem dL_sides_22 : decode cL_sides 22 = .ok (.iconst 2, 1) := by decide +kernel
theorem dL_sides_23 : decode cL_sides 23 = .ok (.if_icmp .ge 224, 3) := by decide +kernel
theorem dL_sides_26 : decode cL_sides 26 = .ok (.iconst 0, 1) := by decide +kernel
theorem dL_sides_27 : decode cL_sides 27 = .ok (.istore 8, 2) := by decide +kernel
theorem dL_sides_29 : decode cL_sides 29 = .ok (.iload 8, 2) := by decide +kernel
theorem dL_sides_31 : decode cL_sides 31 = .ok (.iload_n 2, 1) := by decide +kernel
theorem dL_sides_32 : decode cL_sides 32 = .ok (.if_icmp .ge 209, 3) := by decide +kernel
theorem dL_sides_35 : decode cL_sides 35 = .ok (.iconst 0, 1) := by decide +kernel
theorem dL_sides_36 : decode cL_sides 36 = .ok (.istore 9, 2) := by decide +kernel
theorem dL_sides_38 : decode cL_sides 38 = .ok (.iconst 0, 1) := by decide +kernel
theorem dL_sides_39 : decode cL_sides 39 = .ok (.istore 10, 2) := by decide +kernel
theorem dL_sides_41 : decode cL_sides 41 = .ok (.iconst 0, 1) := by decide +kernel
theorem dL_sides_42 : decode cL_sides 42 = .ok (.istore 11, 2) := by decide +kernel
theorem dL_sides_44 : decode cL_sides 44 = .ok (.iconst 0, 1) := by decide +kernel
theorem dL_sides_45 : decode cL_sides 45 = .ok (.istore 12, 2) := by decide +kernel
theorem dL_sides_47 : decode cL_sides 47 = .ok (.iload 12, 2) := by decide +kernel
theorem dL_sides_49 : decode cL_sides 49 = .ok (.iload_n 2, 1) := by decide +kernel
theorem dL_sides_50 : decode cL_sides 50 = .ok (.if_icmp .ge 91, 3) := by decide +kernel
theorem dL_sides_53 : decode cL_sides 53 = .ok (.iload 7, 2) := by decide +kernel
theorem dL_sides_55 : decode cL_sides 55 = .ok (.ifCond .ne 16, 3) := by decide +kernel
theorem dL_sides_58 : decode cL_sides 58 = .ok (.aload_n 1, 1) := by decide +kernel
theorem dL_sides_59 : decode cL_sides 59 = .ok (.bipush 6, 2) := by decide +kernel
theorem dL_sides_61 : decode cL_sides 61 = .ok (.iload 8, 2) := by decide +kernel
theorem dL_sides_63 : decode cL_sides 63 = .ok (.imul, 1) := by decide +kernel
theorem dL_sides_64 : decode cL_sides 64 = .ok (.iload 12, 2) := by decide +kernel
theorem dL_sides_66 : decode cL_sides 66 = .ok (.iadd, 1) := by decide +kernel
theorem dL_sides_67 : decode cL_sides 67 = .ok (.iaload, 1) := by decide +kernel
theorem dL_sides_68 : decode cL_sides 68 = .ok (.goto 13, 3) := by decide +kernel
theorem dL_sides_71 : decode cL_sides 71 = .ok (.aload_n 1, 1) := by decide +kernel
theorem dL_sides_72 : decode cL_sides 72 = .ok (.bipush 6, 2) := by decide +kernel
theorem dL_sides_74 : decode cL_sides 74 = .ok (.iload 12, 2) := by decide +kernel
theorem dL_sides_76 : decode cL_sides 76 = .ok (.imul, 1) := by decide +kernel
theorem dL_sides_77 : decode cL_sides 77 = .ok (.iload 8, 2) := by decide +kernel
theorem dL_sides_79 : decode cL_sides 79 = .ok (.iadd, 1) := by decide +kernel
theorem dL_sides_80 : decode cL_sides 80 = .ok (.iaload, 1) := by decide +kernel
theorem dL_sides_81 : decode cL_sides 81 = .ok (.istore 13, 2) := by decide +kernel
theorem dL_sides_83 : decode cL_sides 83 = .ok (.iload 13, 2) := by decide +kernel
theorem dL_sides_85 : decode cL_sides 85 = .ok (.iload 9, 2) := by decide +kernel
theorem dL_sides_87 : decode cL_sides 87 = .ok (.if_icmp .le 7, 3) := by decide +kernel
theorem dL_sides_90 : decode cL_sides 90 = .ok (.iconst 1, 1) := by decide +kernel
theorem dL_sides_91 : decode cL_sides 91 = .ok (.goto 19, 3) := by decide +kernel
theorem dL_sides_94 : decode cL_sides 94 = .ok (.iload 13, 2) := by decide +kernel
theorem dL_sides_96 : decode cL_sides 96 = .ok (.iload 9, 2) := by decide +kernel
theorem dL_sides_98 : decode cL_sides 98 = .ok (.if_icmp .ne 10, 3) := by decide +kernel
theorem dL_sides_101 : decode cL_sides 101 = .ok (.iload 10, 2) := by decide +kernel
theorem dL_sides_103 : decode cL_sides 103 = .ok (.iconst 1, 1) := by decide +kernel
theorem dL_sides_104 : decode cL_sides 104 = .ok (.iadd, 1) := by decide +kernel
theorem dL_sides_105 : decode cL_sides 105 = .ok (.goto 5, 3) := by decide +kernel
theorem dL_sides_108 : decode cL_sides 108 = .ok (.iload 10, 2) := by decide +kernel
theorem dL_sides_110 : decode cL_sides 110 = .ok (.istore 10, 2) := by decide +kernel
theorem dL_sides_112 : decode cL_sides 112 = .ok (.iload 13, 2) := by decide +kernel
theorem dL_sides_114 : decode cL_sides 114 = .ok (.iload 9, 2) := by decide +kernel
theorem dL_sides_116 : decode cL_sides 116 = .ok (.if_icmp .le 8, 3) := by decide +kernel
theorem dL_sides_119 : decode cL_sides 119 = .ok (.iload 13, 2) := by decide +kernel
theorem dL_sides_121 : decode cL_sides 121 = .ok (.goto 5, 3) := by decide +kernel
theorem dL_sides_124 : decode cL_sides 124 = .ok (.iload 9, 2) := by decide +kernel
theorem dL_sides_126 : decode cL_sides 126 = .ok (.istore 9, 2) := by decide +kernel
theorem dL_sides_128 : decode cL_sides 128 = .ok (.iload 11, 2) := by decide +kernel
theorem dL_sides_130 : decode cL_sides 130 = .ok (.iload 13, 2) := by decide +kernel
theorem dL_sides_132 : decode cL_sides 132 = .ok (.iadd, 1) := by decide +kernel
theorem dL_sides_133 : decode cL_sides 133 = .ok (.istore 11, 2) := by decide +kernel
theorem dL_sides_135 : decode cL_sides 135 = .ok (.iinc 12 1, 3) := by decide +kernel
theorem dL_sides_138 : decode cL_sides 138 = .ok (.goto (-91), 3) := by decide +kernel
theorem dL_sides_141 : decode cL_sides 141 = .ok (.aload_n 0, 1) := by decide +kernel
theorem dL_sides_142 : decode cL_sides 142 = .ok (.iload 7, 2) := by decide +kernel
theorem dL_sides_144 : decode cL_sides 144 = .ok (.iload 8, 2) := by decide +kernel
theorem dL_sides_146 : decode cL_sides 146 = .ok (.iconst 0, 1) := by decide +kernel
theorem dL_sides_147 : decode cL_sides 147 = .ok (.invokevirtual 73, 3) := by decide +kernel
theorem dL_sides_150 : decode cL_sides 150 = .ok (.iload 9, 2) := by decide +kernel
theorem dL_sides_152 : decode cL_sides 152 = .ok (.if_icmp .ne 31, 3) := by decide +kernel
theorem dL_sides_155 : decode cL_sides 155 = .ok (.aload_n 0, 1) := by decide +kernel
theorem dL_sides_156 : decode cL_sides 156 = .ok (.iload 7, 2) := by decide +kernel
theorem dL_sides_158 : decode cL_sides 158 = .ok (.iload 8, 2) := by decide +kernel
theorem dL_sides_160 : decode cL_sides 160 = .ok (.iconst 1, 1) := by decide +kernel
theorem dL_sides_161 : decode cL_sides 161 = .ok (.invokevirtual 73, 3) := by decide +kernel
theorem dL_sides_164 : decode cL_sides 164 = .ok (.iload 10, 2) := by decide +kernel
theorem dL_sides_166 : decode cL_sides 166 = .ok (.if_icmp .ne 17, 3) := by decide +kernel
theorem dL_sides_169 : decode cL_sides 169 = .ok (.aload_n 0, 1) := by decide +kernel
theorem dL_sides_170 : decode cL_sides 170 = .ok (.iload 7, 2) := by decide +kernel
theorem dL_sides_172 : decode cL_sides 172 = .ok (.iload 8, 2) := by decide +kernel
theorem dL_sides_174 : decode cL_sides 174 = .ok (.iconst 2, 1) := by decide +kernel
theorem dL_sides_175 : decode cL_sides 175 = .ok (.invokevirtual 73, 3) := by decide +kernel
theorem dL_sides_178 : decode cL_sides 178 = .ok (.iload 11, 2) := by decide +kernel
theorem dL_sides_180 : decode cL_sides 180 = .ok (.if_icmp .eq 5, 3) := by decide +kernel
theorem dL_sides_183 : decode cL_sides 183 = .ok (.iconst 0, 1) := by decide +kernel
theorem dL_sides_184 : decode cL_sides 184 = .ok (.ireturn, 1) := by decide +kernel
theorem dL_sides_185 : decode cL_sides 185 = .ok (.aload 5, 2) := by decide +kernel
theorem dL_sides_187 : decode cL_sides 187 = .ok (.iload 9, 2) := by decide +kernel
theorem dL_sides_189 : decode cL_sides 189 = .ok (.dup2, 1) := by decide +kernel
theorem dL_sides_190 : decode cL_sides 190 = .ok (.iaload, 1) := by decide +kernel
theorem dL_sides_191 : decode cL_sides 191 = .ok (.iload 7, 2) := by decide +kernel
theorem dL_sides_193 : decode cL_sides 193 = .ok (.ifCond .ne 7, 3) := by decide +kernel
theorem dL_sides_196 : decode cL_sides 196 = .ok (.iconst 1, 1) := by decide +kernel
theorem dL_sides_197 : decode cL_sides 197 = .ok (.goto 4, 3) := by decide +kernel
theorem dL_sides_200 : decode cL_sides 200 = .ok (.iconst 0, 1) := by decide +kernel
theorem dL_sides_201 : decode cL_sides 201 = .ok (.iadd, 1) := by decide +kernel
theorem dL_sides_202 : decode cL_sides 202 = .ok (.iastore, 1) := by decide +kernel
theorem dL_sides_203 : decode cL_sides 203 = .ok (.aload 6, 2) := by decide +kernel
theorem dL_sides_205 : decode cL_sides 205 = .ok (.iload 9, 2) := by decide +kernel
theorem dL_sides_207 : decode cL_sides 207 = .ok (.dup2, 1) := by decide +kernel
theorem dL_sides_208 : decode cL_sides 208 = .ok (.iaload, 1) := by decide +kernel
theorem dL_sides_209 : decode cL_sides 209 = .ok (.iload 7, 2) := by decide +kernel
theorem dL_sides_211 : decode cL_sides 211 = .ok (.iconst 1, 1) := by decide +kernel
theorem dL_sides_212 : decode cL_sides 212 = .ok (.if_icmp .ne 7, 3) := by decide +kernel
theorem dL_sides_215 : decode cL_sides 215 = .ok (.iconst 1, 1) := by decide +kernel
theorem dL_sides_216 : decode cL_sides 216 = .ok (.goto 4, 3) := by decide +kernel
theorem dL_sides_219 : decode cL_sides 219 = .ok (.iconst 0, 1) := by decide +kernel
theorem dL_sides_220 : decode cL_sides 220 = .ok (.iadd, 1) := by decide +kernel
theorem dL_sides_221 : decode cL_sides 221 = .ok (.iastore, 1) := by decide +kernel
theorem dL_sides_222 : decode cL_sides 222 = .ok (.iload 9, 2) := by decide +kernel
theorem dL_sides_224 : decode cL_sides 224 = .ok (.iload_n 3, 1) := by decide +kernel
theorem dL_sides_225 : decode cL_sides 225 = .ok (.if_icmp .le 8, 3) := by decide +kernel
theorem dL_sides_228 : decode cL_sides 228 = .ok (.iload 9, 2) := by decide +kernel
theorem dL_sides_230 : decode cL_sides 230 = .ok (.goto 4, 3) := by decide +kernel
theorem dL_sides_233 : decode cL_sides 233 = .ok (.iload_n 3, 1) := by decide +kernel
theorem dL_sides_234 : decode cL_sides 234 = .ok (.istore_n 3, 1) := by decide +kernel
theorem dL_sides_235 : decode cL_sides 235 = .ok (.iinc 8 1, 3) := by decide +kernel
theorem dL_sides_238 : decode cL_sides 238 = .ok (.goto (-209), 3) := by decide +kernel
theorem dL_sides_241 : decode cL_sides 241 = .ok (.iinc 7 1, 3) := by decide +kernel
theorem dL_sides_244 : decode cL_sides 244 = .ok (.goto (-224), 3) := by decide +kernel
theorem dL_sides_247 : decode cL_sides 247 = .ok (.iconst 0, 1) := by decide +kernel
theorem dL_sides_248 : decode cL_sides 248 = .ok (.istore 7, 2) := by decide +kernel
theorem dL_sides_250 : decode cL_sides 250 = .ok (.iconst 1, 1) := by decide +kernel
theorem dL_sides_251 : decode cL_sides 251 = .ok (.istore 8, 2) := by decide +kernel
theorem dL_sides_253 : decode cL_sides 253 = .ok (.iload 8, 2) := by decide +kernel
theorem dL_sides_255 : decode cL_sides 255 = .ok (.bipush 9, 2) := by decide +kernel
theorem dL_sides_257 : decode cL_sides 257 = .ok (.if_icmp .ge 43, 3) := by decide +kernel
theorem dL_sides_260 : decode cL_sides 260 = .ok (.iload 7, 2) := by decide +kernel
theorem dL_sides_262 : decode cL_sides 262 = .ok (.iload 8, 2) := by decide +kernel
theorem dL_sides_264 : decode cL_sides 264 = .ok (.aload 5, 2) := by decide +kernel
theorem dL_sides_266 : decode cL_sides 266 = .ok (.iload 8, 2) := by decide +kernel
theorem dL_sides_268 : decode cL_sides 268 = .ok (.iaload, 1) := by decide +kernel
theorem dL_sides_269 : decode cL_sides 269 = .ok (.aload 6, 2) := by decide +kernel
theorem dL_sides_271 : decode cL_sides 271 = .ok (.iload 8, 2) := by decide +kernel
theorem dL_sides_273 : decode cL_sides 273 = .ok (.iaload, 1) := by decide +kernel
theorem dL_sides_274 : decode cL_sides 274 = .ok (.if_icmp .le 11, 3) := by decide +kernel
theorem dL_sides_277 : decode cL_sides 277 = .ok (.aload 5, 2) := by decide +kernel
theorem dL_sides_279 : decode cL_sides 279 = .ok (.iload 8, 2) := by decide +kernel
theorem dL_sides_281 : decode cL_sides 281 = .ok (.iaload, 1) := by decide +kernel
theorem dL_sides_282 : decode cL_sides 282 = .ok (.goto 8, 3) := by decide +kernel
theorem dL_sides_285 : decode cL_sides 285 = .ok (.aload 6, 2) := by decide +kernel
theorem dL_sides_287 : decode cL_sides 287 = .ok (.iload 8, 2) := by decide +kernel
theorem dL_sides_289 : decode cL_sides 289 = .ok (.iaload, 1) := by decide +kernel
theorem dL_sides_290 : decode cL_sides 290 = .ok (.imul, 1) := by decide +kernel
theorem dL_sides_291 : decode cL_sides 291 = .ok (.iadd, 1) := by decide +kernel
theorem dL_sides_292 : decode cL_sides 292 = .ok (.istore 7, 2) := by decide +kernel
theorem dL_sides_294 : decode cL_sides 294 = .ok (.iinc 8 1, 3) := by decide +kernel
theorem dL_sides_297 : decode cL_sides 297 = .ok (.goto (-44), 3) := by decide +kernel
theorem dL_sides_300 : decode cL_sides 300 = .ok (.iconst 0, 1) := by decide +kernel
theorem dL_sides_301 : decode cL_sides 301 = .ok (.istore 8, 2) := by decide +kernel
theorem dL_sides_303 : decode cL_sides 303 = .ok (.iload 8, 2) := by decide +kernel
theorem dL_sides_305 : decode cL_sides 305 = .ok (.iload_n 2, 1) := by decide +kernel
theorem dL_sides_306 : decode cL_sides 306 = .ok (.iload_n 2, 1) := by decide +kernel
theorem dL_sides_307 : decode cL_sides 307 = .ok (.imul, 1) := by decide +kernel
theorem dL_sides_308 : decode cL_sides 308 = .ok (.if_icmp .ge 52, 3) := by decide +kernel
theorem dL_sides_311 : decode cL_sides 311 = .ok (.aload_n 0, 1) := by decide +kernel
theorem dL_sides_312 : decode cL_sides 312 = .ok (.iconst 0, 1) := by decide +kernel
theorem dL_sides_313 : decode cL_sides 313 = .ok (.iload 8, 2) := by decide +kernel
theorem dL_sides_315 : decode cL_sides 315 = .ok (.iload_n 2, 1) := by decide +kernel
theorem dL_sides_316 : decode cL_sides 316 = .ok (.idiv, 1) := by decide +kernel
theorem dL_sides_317 : decode cL_sides 317 = .ok (.iconst 0, 1) := by decide +kernel
theorem dL_sides_318 : decode cL_sides 318 = .ok (.invokevirtual 73, 3) := by decide +kernel
theorem dL_sides_321 : decode cL_sides 321 = .ok (.istore 9, 2) := by decide +kernel
theorem dL_sides_323 : decode cL_sides 323 = .ok (.aload_n 0, 1) := by decide +kernel
theorem dL_sides_324 : decode cL_sides 324 = .ok (.iconst 1, 1) := by decide +kernel
theorem dL_sides_325 : decode cL_sides 325 = .ok (.iload 8, 2) := by decide +kernel
theorem dL_sides_327 : decode cL_sides 327 = .ok (.iload_n 2, 1) := by decide +kernel
theorem dL_sides_328 : decode cL_sides 328 = .ok (.irem, 1) := by decide +kernel
theorem dL_sides_329 : decode cL_sides 329 = .ok (.iconst 0, 1) := by decide +kernel
theorem dL_sides_330 : decode cL_sides 330 = .ok (.invokevirtual 73, 3) := by decide +kernel
theorem dL_sides_333 : decode cL_sides 333 = .ok (.istore 10, 2) := by decide +kernel
theorem dL_sides_335 : decode cL_sides 335 = .ok (.iload 4, 2) := by decide +kernel
theorem dL_sides_337 : decode cL_sides 337 = .ok (.iload 9, 2) := by decide +kernel
theorem dL_sides_339 : decode cL_sides 339 = .ok (.iload 10, 2) := by decide +kernel
theorem dL_sides_341 : decode cL_sides 341 = .ok (.if_icmp .ge 8, 3) := by decide +kernel
theorem dL_sides_344 : decode cL_sides 344 = .ok (.iload 9, 2) := by decide +kernel
theorem dL_sides_346 : decode cL_sides 346 = .ok (.goto 5, 3) := by decide +kernel
theorem dL_sides_349 : decode cL_sides 349 = .ok (.iload 10, 2) := by decide +kernel
theorem dL_sides_351 : decode cL_sides 351 = .ok (.iadd, 1) := by decide +kernel
theorem dL_sides_352 : decode cL_sides 352 = .ok (.istore 4, 2) := by decide +kernel
theorem dL_sides_354 : decode cL_sides 354 = .ok (.iinc 8 1, 3) := by decide +kernel
theorem dL_sides_357 : decode cL_sides 357 = .ok (.goto (-54), 3) := by decide +kernel
theorem dL_sides_360 : decode cL_sides 360 = .ok (.iconst 0, 1) := by decide +kernel
theorem dL_sides_361 : decode cL_sides 361 = .ok (.istore 8, 2) := by decide +kernel
theorem dL_sides_363 : decode cL_sides 363 = .ok (.iload 8, 2) := by decide +kernel
theorem dL_sides_365 : decode cL_sides 365 = .ok (.bipush 8, 2) := by decide +kernel
theorem dL_sides_367 : decode cL_sides 367 = .ok (.if_icmp .ge 84, 3) := by decide +kernel
theorem dL_sides_370 : decode cL_sides 370 = .ok (.iconst 0, 1) := by decide +kernel
theorem dL_sides_371 : decode cL_sides 371 = .ok (.istore 9, 2) := by decide +kernel
theorem dL_sides_373 : decode cL_sides 373 = .ok (.iload 9, 2) := by decide +kernel
theorem dL_sides_375 : decode cL_sides 375 = .ok (.iload_n 2, 1) := by decide +kernel
theorem dL_sides_376 : decode cL_sides 376 = .ok (.if_icmp .ge 69, 3) := by decide +kernel
theorem dL_sides_379 : decode cL_sides 379 = .ok (.iconst 0, 1) := by decide +kernel
theorem dL_sides_380 : decode cL_sides 380 = .ok (.istore 10, 2) := by decide +kernel
theorem dL_sides_382 : decode cL_sides 382 = .ok (.iconst 0, 1) := by decide +kernel
theorem dL_sides_383 : decode cL_sides 383 = .ok (.istore 11, 2) := by decide +kernel
theorem dL_sides_385 : decode cL_sides 385 = .ok (.iload 11, 2) := by decide +kernel
theorem dL_sides_387 : decode cL_sides 387 = .ok (.iload_n 2, 1) := by decide +kernel
theorem dL_sides_388 : decode cL_sides 388 = .ok (.if_icmp .ge 36, 3) := by decide +kernel
theorem dL_sides_391 : decode cL_sides 391 = .ok (.iload 10, 2) := by decide +kernel
theorem dL_sides_393 : decode cL_sides 393 = .ok (.aload_n 1, 1) := by decide +kernel
theorem dL_sides_394 : decode cL_sides 394 = .ok (.iload_n 2, 1) := by decide +kernel
theorem dL_sides_395 : decode cL_sides 395 = .ok (.iload 11, 2) := by decide +kernel
theorem dL_sides_397 : decode cL_sides 397 = .ok (.iload 9, 2) := by decide +kernel
theorem dL_sides_399 : decode cL_sides 399 = .ok (.iload 8, 2) := by decide +kernel
theorem dL_sides_401 : decode cL_sides 401 = .ok (.invokestatic 39, 3) := by decide +kernel
theorem dL_sides_404 : decode cL_sides 404 = .ok (.ifCond .eq 10, 3) := by decide +kernel
theorem dL_sides_407 : decode cL_sides 407 = .ok (.iconst 1, 1) := by decide +kernel
theorem dL_sides_408 : decode cL_sides 408 = .ok (.iload 11, 2) := by decide +kernel
theorem dL_sides_410 : decode cL_sides 410 = .ok (.ishl, 1) := by decide +kernel
theorem dL_sides_411 : decode cL_sides 411 = .ok (.goto 4, 3) := by decide +kernel
theorem dL_sides_414 : decode cL_sides 414 = .ok (.iconst 0, 1) := by decide +kernel
theorem dL_sides_415 : decode cL_sides 415 = .ok (.ior, 1) := by decide +kernel
theorem dL_sides_416 : decode cL_sides 416 = .ok (.istore 10, 2) := by decide +kernel
theorem dL_sides_418 : decode cL_sides 418 = .ok (.iinc 11 1, 3) := by decide +kernel
theorem dL_sides_421 : decode cL_sides 421 = .ok (.goto (-36), 3) := by decide +kernel
theorem dL_sides_424 : decode cL_sides 424 = .ok (.aload_n 0, 1) := by decide +kernel
theorem dL_sides_425 : decode cL_sides 425 = .ok (.iload 8, 2) := by decide +kernel
theorem dL_sides_427 : decode cL_sides 427 = .ok (.iload 9, 2) := by decide +kernel
theorem dL_sides_429 : decode cL_sides 429 = .ok (.invokevirtual 76, 3) := by decide +kernel
theorem dL_sides_432 : decode cL_sides 432 = .ok (.iload 10, 2) := by decide +kernel
theorem dL_sides_434 : decode cL_sides 434 = .ok (.if_icmp .eq 5, 3) := by decide +kernel
theorem dL_sides_437 : decode cL_sides 437 = .ok (.iconst 0, 1) := by decide +kernel
theorem dL_sides_438 : decode cL_sides 438 = .ok (.ireturn, 1) := by decide +kernel
theorem dL_sides_439 : decode cL_sides 439 = .ok (.iinc 9 1, 3) := by decide +kernel
theorem dL_sides_442 : decode cL_sides 442 = .ok (.goto (-69), 3) := by decide +kernel
theorem dL_sides_445 : decode cL_sides 445 = .ok (.iinc 8 1, 3) := by decide +kernel
theorem dL_sides_448 : decode cL_sides 448 = .ok (.goto (-85), 3) := by decide +kernel
theorem dL_sides_451 : decode cL_sides 451 = .ok (.aload_n 0, 1) := by decide +kernel
theorem dL_sides_452 : decode cL_sides 452 = .ok (.bipush 10, 2) := by decide +kernel
theorem dL_sides_454 : decode cL_sides 454 = .ok (.invokevirtual 33, 3) := by decide +kernel
theorem dL_sides_457 : decode cL_sides 457 = .ok (.iload_n 3, 1) := by decide +kernel
theorem dL_sides_458 : decode cL_sides 458 = .ok (.if_icmp .ne 47, 3) := by decide +kernel
theorem dL_sides_461 : decode cL_sides 461 = .ok (.aload_n 0, 1) := by decide +kernel
theorem dL_sides_462 : decode cL_sides 462 = .ok (.iconst 0, 1) := by decide +kernel
theorem dL_sides_463 : decode cL_sides 463 = .ok (.invokevirtual 79, 3) := by decide +kernel
theorem dL_sides_466 : decode cL_sides 466 = .ok (.iload 7, 2) := by decide +kernel
theorem dL_sides_468 : decode cL_sides 468 = .ok (.if_icmp .ne 37, 3) := by decide +kernel
theorem dL_sides_471 : decode cL_sides 471 = .ok (.aload_n 0, 1) := by decide +kernel
theorem dL_sides_472 : decode cL_sides 472 = .ok (.iconst 1, 1) := by decide +kernel
theorem dL_sides_473 : decode cL_sides 473 = .ok (.invokevirtual 79, 3) := by decide +kernel
theorem dL_sides_476 : decode cL_sides 476 = .ok (.iload 4, 2) := by decide +kernel
theorem dL_sides_478 : decode cL_sides 478 = .ok (.if_icmp .ne 27, 3) := by decide +kernel
theorem dL_sides_481 : decode cL_sides 481 = .ok (.iload 7, 2) := by decide +kernel
theorem dL_sides_483 : decode cL_sides 483 = .ok (.aload_n 0, 1) := by decide +kernel
theorem dL_sides_484 : decode cL_sides 484 = .ok (.iconst 1, 1) := by decide +kernel
theorem dL_sides_485 : decode cL_sides 485 = .ok (.invokevirtual 33, 3) := by decide +kernel
theorem dL_sides_488 : decode cL_sides 488 = .ok (.if_icmp .gt 17, 3) := by decide +kernel
theorem dL_sides_491 : decode cL_sides 491 = .ok (.aload_n 0, 1) := by decide +kernel
theorem dL_sides_492 : decode cL_sides 492 = .ok (.iconst 1, 1) := by decide +kernel
theorem dL_sides_493 : decode cL_sides 493 = .ok (.invokevirtual 33, 3) := by decide +kernel
theorem dL_sides_496 : decode cL_sides 496 = .ok (.iload 4, 2) := by decide +kernel
theorem dL_sides_498 : decode cL_sides 498 = .ok (.if_icmp .gt 7, 3) := by decide +kernel
theorem dL_sides_501 : decode cL_sides 501 = .ok (.iconst 1, 1) := by decide +kernel
theorem dL_sides_502 : decode cL_sides 502 = .ok (.goto 4, 3) := by decide +kernel
theorem dL_sides_505 : decode cL_sides 505 = .ok (.iconst 0, 1) := by decide +kernel
theorem dL_sides_506 : decode cL_sides 506 = .ok (.ireturn, 1) := by decide +kernel
