theorem dL_begin_0 : decode cL_begin 0 = .ok (.aload_n 2, 1) := by decide +kernel
theorem dL_begin_1 : decode cL_begin 1 = .ok (.iconst 0, 1) := by decide +kernel
theorem dL_begin_2 : decode cL_begin 2 = .ok (.aload_n 0, 1) := by decide +kernel
theorem dL_begin_3 : decode cL_begin 3 = .ok (.iload_n 1, 1) := by decide +kernel
theorem dL_begin_4 : decode cL_begin 4 = .ok (.invokevirtual 7, 3) := by decide +kernel
theorem dL_begin_7 : decode cL_begin 7 = .ok (.i2l, 1) := by decide +kernel
theorem dL_begin_8 : decode cL_begin 8 = .ok (.lastore, 1) := by decide +kernel
theorem dL_begin_9 : decode cL_begin 9 = .ok (.goto 6, 3) := by decide +kernel
theorem dL_begin_12 : decode cL_begin 12 = .ok (.astore_n 3, 1) := by decide +kernel
theorem dL_begin_13 : decode cL_begin 13 = .ok (.iconst 1, 1) := by decide +kernel
theorem dL_begin_14 : decode cL_begin 14 = .ok (.ireturn, 1) := by decide +kernel
theorem dL_begin_15 : decode cL_begin 15 = .ok (.iconst 0, 1) := by decide +kernel
theorem dL_begin_16 : decode cL_begin 16 = .ok (.ireturn, 1) := by decide +kernel
set_option maxRecDepth 20000 in
theorem ggL_put_X4_put : GoodIn wsL_put wsX4_put := goodIn_ca (goodIn_ca (goodIn_ca (goodIn_r _ [8, 9, 10, 11, 12, 13, 14, 7, 15, 16, 17, 18, 19, 20, 21, 22, 23, 24, 25, 26, 27, 28, 29, 30, 31, 32, 33, 34, 35, 36, 37, 38, 39, 40, 41, 42, 43, 44, 45, 46, 47, 48, 49, 50, 51, 52, 53, 54, 55, 56, 57, 58, 59, 60, 61, 62, 63, 64, 65, 66, 67, 68, 69, 70, 71, 72, 73, 74, 75, 76, 77, 78, 79, 80, 81, 82, 83, 84] (by decide +kernel) (by decide +kernel)) (goodIn_sub (fun _ h => List.mem_cons_of_mem _ (List.mem_append_left _ (List.mem_append_left _ (List.mem_append_right _ h)))) (by decide +kernel))) (goodIn_sub (fun _ h => List.mem_cons_of_mem _ (List.mem_append_left _ (List.mem_append_right _ h))) (by decide +kernel))) (goodIn_sub (fun _ h => List.mem_cons_of_mem _ (List.mem_append_right _ h)) (by decide +kernel))
set_option maxRecDepth 20000 in
theorem gL_put_X4_put : GoodIn wsL_put (wsV RL 15 RX4 yX4_put wsX4_put) := goodIn_app (goodIn_of _ (by decide +kernel)) ggL_put_X4_put
theorem dL_put_0 : decode cL_put 0 = .ok (.aload 4, 2) := by decide +kernel
theorem dL_put_2 : decode cL_put 2 = .ok (.iconst 0, 1) := by decide +kernel
theorem dL_put_3 : decode cL_put 3 = .ok (.aload_n 0, 1) := by decide +kernel
theorem dL_put_4 : decode cL_put 4 = .ok (.iload_n 1, 1) := by decide +kernel
theorem dL_put_5 : decode cL_put 5 = .ok (.iload_n 2, 1) := by decide +kernel
theorem dL_put_6 : decode cL_put 6 = .ok (.iload_n 3, 1) := by decide +kernel
theorem dL_put_7 : decode cL_put 7 = .ok (.invokevirtual 15, 3) := by decide +kernel
theorem dL_put_10 : decode cL_put 10 = .ok (.i2l, 1) := by decide +kernel
theorem dL_put_11 : decode cL_put 11 = .ok (.lastore, 1) := by decide +kernel
theorem dL_put_12 : decode cL_put 12 = .ok (.goto 15, 3) := by decide +kernel
theorem dL_put_15 : decode cL_put 15 = .ok (.astore 5, 2) := by decide +kernel
theorem dL_put_17 : decode cL_put 17 = .ok (.iconst 1, 1) := by decide +kernel
theorem dL_put_18 : decode cL_put 18 = .ok (.ireturn, 1) := by decide +kernel
theorem dL_put_19 : decode cL_put 19 = .ok (.astore 5, 2) := by decide +kernel
theorem dL_put_21 : decode cL_put 21 = .ok (.iconst 2, 1) := by decide +kernel
theorem dL_put_22 : decode cL_put 22 = .ok (.ireturn, 1) := by decide +kernel
theorem dL_put_23 : decode cL_put 23 = .ok (.astore 5, 2) := by decide +kernel
theorem dL_put_25 : decode cL_put 25 = .ok (.iconst 3, 1) := by decide +kernel
theorem dL_put_26 : decode cL_put 26 = .ok (.ireturn, 1) := by decide +kernel
theorem dL_put_27 : decode cL_put 27 = .ok (.iconst 0, 1) := by decide +kernel
theorem dL_put_28 : decode cL_put 28 = .ok (.ireturn, 1) := by decide +kernel
set_option maxRecDepth 20000 in
theorem ggL_take_X4_take : GoodIn wsL_take wsX4_take := goodIn_ca (goodIn_ca (goodIn_r _ [7, 8, 9, 10, 11, 6, 12, 13, 14, 15, 16, 17, 18, 19, 20, 21, 22, 23, 24, 25, 26, 27, 28, 29, 30, 31, 32, 33, 34, 35, 36, 37, 38, 39, 40, 41, 42, 43, 44, 45, 46, 47, 48, 49, 50, 51, 52, 53, 54, 55, 56, 57, 58, 59, 60, 61, 62, 63, 64, 65, 66, 67, 68, 69, 70, 71, 72, 73, 74, 75, 76, 77, 78, 79, 80, 81, 82, 83, 84, 85, 86, 87, 88, 89, 90, 91, 92, 93, 94, 95] (by decide +kernel) (by decide +kernel)) (goodIn_sub (fun _ h => List.mem_cons_of_mem _ (List.mem_append_left _ (List.mem_append_right _ h))) (by decide +kernel))) (goodIn_sub (fun _ h => List.mem_cons_of_mem _ (List.mem_append_right _ h)) (by decide +kernel))
set_option maxRecDepth 20000 in
theorem gL_take_X4_take : GoodIn wsL_take (wsV RL 23 RX4 yX4_take wsX4_take) := goodIn_app (goodIn_of _ (by decide +kernel)) ggL_take_X4_take
theorem dL_take_0 : decode cL_take 0 = .ok (.aload_n 3, 1) := by decide +kernel
theorem dL_take_1 : decode cL_take 1 = .ok (.iconst 0, 1) := by decide +kernel
theorem dL_take_2 : decode cL_take 2 = .ok (.aload_n 0, 1) := by decide +kernel
theorem dL_take_3 : decode cL_take 3 = .ok (.iload_n 1, 1) := by decide +kernel
theorem dL_take_4 : decode cL_take 4 = .ok (.iload_n 2, 1) := by decide +kernel
theorem dL_take_5 : decode cL_take 5 = .ok (.invokevirtual 23, 3) := by decide +kernel
theorem dL_take_8 : decode cL_take 8 = .ok (.i2l, 1) := by decide +kernel
theorem dL_take_9 : decode cL_take 9 = .ok (.lastore, 1) := by decide +kernel
theorem dL_take_10 : decode cL_take 10 = .ok (.goto 11, 3) := by decide +kernel
theorem dL_take_13 : decode cL_take 13 = .ok (.astore 4, 2) := by decide +kernel
theorem dL_take_15 : decode cL_take 15 = .ok (.iconst 1, 1) := by decide +kernel
theorem dL_take_16 : decode cL_take 16 = .ok (.ireturn, 1) := by decide +kernel
theorem dL_take_17 : decode cL_take 17 = .ok (.astore 4, 2) := by decide +kernel
theorem dL_take_19 : decode cL_take 19 = .ok (.iconst 2, 1) := by decide +kernel
theorem dL_take_20 : decode cL_take 20 = .ok (.ireturn, 1) := by decide +kernel
theorem dL_take_21 : decode cL_take 21 = .ok (.iconst 0, 1) := by decide +kernel
theorem dL_take_22 : decode cL_take 22 = .ok (.ireturn, 1) := by decide +kernel
set_option maxRecDepth 20000 in
theorem ggL_carry_X4_carry : GoodIn wsL_carry wsX4_carry := goodIn_ca (goodIn_ca (goodIn_r _ [7, 8, 9, 10, 11, 12, 13, 6, 14, 15, 16, 17, 18, 19, 20, 21, 22, 23, 24, 25, 26, 27, 28, 29, 30, 31, 32, 33, 34, 35, 36, 37, 38, 39, 40, 41, 42, 43, 44, 45, 46, 47, 48, 49, 50, 51, 52, 53, 54, 55, 56, 57, 58, 59, 60, 61, 62, 63, 64, 65, 66, 67, 68, 69, 70, 71, 72, 73, 74, 75, 76, 77, 78, 79, 80, 81, 82, 83, 84, 85, 86, 87] (by decide +kernel) (by decide +kernel)) (goodIn_sub (fun _ h => List.mem_cons_of_mem _ (List.mem_append_left _ (List.mem_append_right _ h))) (by decide +kernel))) (goodIn_sub (fun _ h => List.mem_cons_of_mem _ (List.mem_append_right _ h)) (by decide +kernel))
set_option maxRecDepth 20000 in
theorem gL_carry_X4_carry : GoodIn wsL_carry (wsV RL 27 RX4 yX4_carry wsX4_carry) := goodIn_app (goodIn_of _ (by decide +kernel)) ggL_carry_X4_carry
theorem dL_carry_0 : decode cL_carry 0 = .ok (.aload 5, 2) := by decide +kernel
theorem dL_carry_2 : decode cL_carry 2 = .ok (.iconst 0, 1) := by decide +kernel
theorem dL_carry_3 : decode cL_carry 3 = .ok (.aload_n 0, 1) := by decide +kernel
theorem dL_carry_4 : decode cL_carry 4 = .ok (.iload_n 1, 1) := by decide +kernel
theorem dL_carry_5 : decode cL_carry 5 = .ok (.iload_n 2, 1) := by decide +kernel
theorem dL_carry_6 : decode cL_carry 6 = .ok (.iload_n 3, 1) := by decide +kernel
theorem dL_carry_7 : decode cL_carry 7 = .ok (.iload 4, 2) := by decide +kernel
theorem dL_carry_9 : decode cL_carry 9 = .ok (.invokevirtual 27, 3) := by decide +kernel
theorem dL_carry_12 : decode cL_carry 12 = .ok (.i2l, 1) := by decide +kernel
theorem dL_carry_13 : decode cL_carry 13 = .ok (.lastore, 1) := by decide +kernel
theorem dL_carry_14 : decode cL_carry 14 = .ok (.goto 11, 3) := by decide +kernel
theorem dL_carry_17 : decode cL_carry 17 = .ok (.astore 6, 2) := by decide +kernel
theorem dL_carry_19 : decode cL_carry 19 = .ok (.iconst 1, 1) := by decide +kernel
theorem dL_carry_20 : decode cL_carry 20 = .ok (.ireturn, 1) := by decide +kernel
theorem dL_carry_21 : decode cL_carry 21 = .ok (.astore 6, 2) := by decide +kernel
theorem dL_carry_23 : decode cL_carry 23 = .ok (.iconst 2, 1) := by decide +kernel
theorem dL_carry_24 : decode cL_carry 24 = .ok (.ireturn, 1) := by decide +kernel
theorem dL_carry_25 : decode cL_carry 25 = .ok (.iconst 0, 1) := by decide +kernel
theorem dL_carry_26 : decode cL_carry 26 = .ok (.ireturn, 1) := by decide +kernel
set_option maxRecDepth 20000 in
theorem ggL_paint_X4_paint : GoodIn wsL_paint wsX4_paint := goodIn_ca (goodIn_ca (goodIn_ca (goodIn_r _ [8, 9, 10, 11, 12, 7, 13, 14, 15, 16, 17, 18, 19, 20, 21, 22, 23, 24, 25, 26, 27, 28, 29, 30, 31, 32, 33, 34, 35, 36, 37, 38, 39, 40, 41, 42, 43, 44, 45, 46, 47, 48, 49, 50, 51, 52, 53, 54, 55, 56, 57, 58, 59, 60, 61, 62, 63, 64, 65, 66, 67, 68, 69, 70, 71, 72, 73, 74, 75, 76, 77, 78, 79, 80, 81, 82, 83, 84, 85, 86, 87, 88, 89, 90, 91, 92, 93, 94, 95, 96, 97, 98, 99, 100, 101, 102, 103, 104, 105] (by decide +kernel) (by decide +kernel)) (goodIn_sub (fun _ h => List.mem_cons_of_mem _ (List.mem_append_left _ (List.mem_append_left _ (List.mem_append_right _ h)))) (by decide +kernel))) (goodIn_sub (fun _ h => List.mem_cons_of_mem _ (List.mem_append_left _ (List.mem_append_right _ h))) (by decide +kernel))) (goodIn_sub (fun _ h => List.mem_cons_of_mem _ (List.mem_append_right _ h)) (by decide +kernel))
set_option maxRecDepth 20000 in
theorem gL_paint_X4_paint : GoodIn wsL_paint (wsV RL 31 RX4 yX4_paint wsX4_paint) := goodIn_app (goodIn_of _ (by decide +kernel)) ggL_paint_X4_paint
theorem dL_paint_0 : decode cL_paint 0 = .ok (.aload 4, 2) := by decide +kernel
theorem dL_paint_2 : decode cL_paint 2 = .ok (.iconst 0, 1) := by decide +kernel
theorem dL_paint_3 : decode cL_paint 3 = .ok (.aload_n 0, 1) := by decide +kernel
theorem dL_paint_4 : decode cL_paint 4 = .ok (.iload_n 1, 1) := by decide +kernel
theorem dL_paint_5 : decode cL_paint 5 = .ok (.iload_n 2, 1) := by decide +kernel
theorem dL_paint_6 : decode cL_paint 6 = .ok (.iload_n 3, 1) := by decide +kernel
theorem dL_paint_7 : decode cL_paint 7 = .ok (.invokevirtual 31, 3) := by decide +kernel
theorem dL_paint_10 : decode cL_paint 10 = .ok (.i2l, 1) := by decide +kernel
theorem dL_paint_11 : decode cL_paint 11 = .ok (.lastore, 1) := by decide +kernel
theorem dL_paint_12 : decode cL_paint 12 = .ok (.goto 15, 3) := by decide +kernel
theorem dL_paint_15 : decode cL_paint 15 = .ok (.astore 5, 2) := by decide +kernel
theorem dL_paint_17 : decode cL_paint 17 = .ok (.iconst 1, 1) := by decide +kernel
theorem dL_paint_18 : decode cL_paint 18 = .ok (.ireturn, 1) := by decide +kernel
theorem dL_paint_19 : decode cL_paint 19 = .ok (.astore 5, 2) := by decide +kernel
theorem dL_paint_21 : decode cL_paint 21 = .ok (.iconst 2, 1) := by decide +kernel
theorem dL_paint_22 : decode cL_paint 22 = .ok (.ireturn, 1) := by decide +kernel
theorem dL_paint_23 : decode cL_paint 23 = .ok (.astore 5, 2) := by decide +kernel
theorem dL_paint_25 : decode cL_paint 25 = .ok (.iconst 3, 1) := by decide +kernel
theorem dL_paint_26 : decode cL_paint 26 = .ok (.ireturn, 1) := by decide +kernel
theorem dL_paint_27 : decode cL_paint 27 = .ok (.iconst 0, 1) := by decide +kernel
theorem dL_paint_28 : decode cL_paint 28 = .ok (.ireturn, 1) := by decide +kernel
set_option maxRecDepth 20000 in
theorem ggL_cutOff_X4_cutOff : GoodIn wsL_cutOff wsX4_cutOff := goodIn_ca (goodIn_r _ [6, 7, 8, 9, 5, 10, 11, 12, 13, 14, 15, 16, 17, 18, 19, 20, 21, 22, 23, 24, 25, 26, 27, 28, 29, 30, 31, 32, 33, 34, 35, 36, 37, 38, 39, 40, 41, 42, 43, 44, 45, 46, 47, 48, 49, 50, 51, 52, 53, 54, 55, 56, 57, 58, 59, 60, 61, 62, 63, 64, 65, 66, 67, 68, 69, 70, 71, 72, 73, 74, 75, 76, 77, 78, 79, 80, 81, 82] (by decide +kernel) (by decide +kernel)) (goodIn_sub (fun _ h => List.mem_cons_of_mem _ (List.mem_append_right _ h)) (by decide +kernel))
set_option maxRecDepth 20000 in
theorem gL_cutOff_X4_cutOff : GoodIn wsL_cutOff (wsV RL 34 RX4 yX4_cutOff wsX4_cutOff) := goodIn_app (goodIn_of _ (by decide +kernel)) ggL_cutOff_X4_cutOff
theorem dL_cutOff_0 : decode cL_cutOff 0 = .ok (.aload_n 2, 1) := by decide +kernel
theorem dL_cutOff_1 : decode cL_cutOff 1 = .ok (.iconst 0, 1) := by decide +kernel
theorem dL_cutOff_2 : decode cL_cutOff 2 = .ok (.aload_n 0, 1) := by decide +kernel
theorem dL_cutOff_3 : decode cL_cutOff 3 = .ok (.iload_n 1, 1) := by decide +kernel
theorem dL_cutOff_4 : decode cL_cutOff 4 = .ok (.invokevirtual 34, 3) := by decide +kernel
theorem dL_cutOff_7 : decode cL_cutOff 7 = .ok (.i2l, 1) := by decide +kernel
theorem dL_cutOff_8 : decode cL_cutOff 8 = .ok (.lastore, 1) := by decide +kernel
theorem dL_cutOff_9 : decode cL_cutOff 9 = .ok (.goto 6, 3) := by decide +kernel
theorem dL_cutOff_12 : decode cL_cutOff 12 = .ok (.astore_n 3, 1) := by decide +kernel
theorem dL_cutOff_13 : decode cL_cutOff 13 = .ok (.iconst 1, 1) := by decide +kernel
theorem dL_cutOff_14 : decode cL_cutOff 14 = .ok (.ireturn, 1) := by decide +kernel
theorem dL_cutOff_15 : decode cL_cutOff 15 = .ok (.iconst 0, 1) := by decide +kernel
theorem dL_cutOff_16 : decode cL_cutOff 16 = .ok (.ireturn, 1) := by decide +kernel
set_option maxRecDepth 20000 in
theorem ggL_hour_X4_hour : GoodIn wsL_hour wsX4_hour := goodIn_ca (goodIn_r _ [6, 7, 8, 9, 5, 10, 11, 12, 13, 14, 15, 16, 17, 18, 19, 20, 21, 22, 23, 24, 25, 26, 27, 28, 29, 30, 31, 32, 33, 34, 35, 36, 37, 38, 39, 40, 41, 42, 43, 44, 45, 46, 47, 48, 49, 50, 51, 52, 53, 54, 55, 56, 57, 58] (by decide +kernel) (by decide +kernel)) (goodIn_sub (fun _ h => List.mem_cons_of_mem _ (List.mem_append_right _ h)) (by decide +kernel))
set_option maxRecDepth 20000 in
theorem gL_hour_X4_hour : GoodIn wsL_hour (wsV RL 37 RX4 yX4_hour wsX4_hour) := goodIn_app (goodIn_of _ (by decide +kernel)) ggL_hour_X4_hour
theorem dL_hour_0 : decode cL_hour 0 = .ok (.aload_n 2, 1) := by decide +kernel
theorem dL_hour_1 : decode cL_hour 1 = .ok (.iconst 0, 1) := by decide +kernel
theorem dL_hour_2 : decode cL_hour 2 = .ok (.aload_n 0, 1) := by decide +kernel
theorem dL_hour_3 : decode cL_hour 3 = .ok (.iload_n 1, 1) := by decide +kernel
theorem dL_hour_4 : decode cL_hour 4 = .ok (.invokevirtual 37, 3) := by decide +kernel
theorem dL_hour_7 : decode cL_hour 7 = .ok (.i2l, 1) := by decide +kernel
theorem dL_hour_8 : decode cL_hour 8 = .ok (.lastore, 1) := by decide +kernel
theorem dL_hour_9 : decode cL_hour 9 = .ok (.goto 6, 3) := by decide +kernel
theorem dL_hour_12 : decode cL_hour 12 = .ok (.astore_n 3, 1) := by decide +kernel
theorem dL_hour_13 : decode cL_hour 13 = .ok (.iconst 1, 1) := by decide +kernel
theorem dL_hour_14 : decode cL_hour 14 = .ok (.ireturn, 1) := by decide +kernel
theorem dL_hour_15 : decode cL_hour 15 = .ok (.iconst 0, 1) := by decide +kernel
theorem dL_hour_16 : decode cL_hour 16 = .ok (.ireturn, 1) := by decide +kernel
set_option maxRecDepth 20000 in
theorem ggL_append_X4_append : GoodIn wsL_append wsX4_append := goodIn_ca (goodIn_ca (goodIn_r _ [7, 8, 9, 10, 11, 12, 6, 13, 14, 15, 16, 17, 18, 19, 20, 21, 22, 23, 24, 25, 26, 27, 28, 29, 30, 31, 32, 33, 34] (by decide +kernel) (by decide +kernel)) (goodIn_sub (fun _ h => List.mem_cons_of_mem _ (List.mem_append_left _ (List.mem_append_right _ h))) (by decide +kernel))) (goodIn_sub (fun _ h => List.mem_cons_of_mem _ (List.mem_append_right _ h)) (by decide +kernel))
set_option maxRecDepth 20000 in
theorem gL_append_X4_append : GoodIn wsL_append (wsV RL 40 RX4 yX4_append wsX4_append) := goodIn_app (goodIn_of _ (by decide +kernel)) ggL_append_X4_append
theorem dL_append_0 : decode cL_append 0 = .ok (.aload_n 2, 1) := by decide +kernel
theorem dL_append_1 : decode cL_append 1 = .ok (.iconst 0, 1) := by decide +kernel
theorem dL_append_2 : decode cL_append 2 = .ok (.aload_n 0, 1) := by decide +kernel
theorem dL_append_3 : decode cL_append 3 = .ok (.iload_n 1, 1) := by decide +kernel
theorem dL_append_4 : decode cL_append 4 = .ok (.invokevirtual 40, 3) := by decide +kernel
theorem dL_append_7 : decode cL_append 7 = .ok (.i2l, 1) := by decide +kernel
theorem dL_append_8 : decode cL_append 8 = .ok (.lastore, 1) := by decide +kernel
theorem dL_append_9 : decode cL_append 9 = .ok (.goto 9, 3) := by decide +kernel
theorem dL_append_12 : decode cL_append 12 = .ok (.astore_n 3, 1) := by decide +kernel
theorem dL_append_13 : decode cL_append 13 = .ok (.iconst 1, 1) := by decide +kernel
theorem dL_append_14 : decode cL_append 14 = .ok (.ireturn, 1) := by decide +kernel
theorem dL_append_15 : decode cL_append 15 = .ok (.astore_n 3, 1) := by decide +kernel
theorem dL_append_16 : decode cL_append 16 = .ok (.iconst 2, 1) := by decide +kernel
theorem dL_append_17 : decode cL_append 17 = .ok (.ireturn, 1) := by decide +kernel
theorem dL_append_18 : decode cL_append 18 = .ok (.iconst 0, 1) := by decide +kernel
theorem dL_append_19 : decode cL_append 19 = .ok (.ireturn, 1) := by decide +kernel
set_option maxRecDepth 20000 in
theorem ggL_build_X4_build : GoodIn wsL_build wsX4_build := goodIn_ca (goodIn_r _ [6, 7, 8, 9, 10, 11, 12, 13, 14, 15, 16, 17, 18, 19, 20, 21, 5, 22, 23, 24, 25, 26, 27, 28, 29, 30, 31, 32, 33, 34, 35, 36, 37, 38, 39, 40, 41, 42, 43, 44, 45, 46, 47, 48, 49, 50, 51, 52, 53, 54, 55, 56, 57, 58, 59, 60, 61, 62, 63, 64, 65, 66, 67, 68, 69, 70, 71, 72, 73, 74, 75, 76, 77, 78, 79, 80, 81, 82, 83, 84, 85, 86, 87, 88, 89, 90, 91, 92, 93, 94, 95, 96, 97, 98, 99, 100, 101, 102, 103, 104, 105, 106, 107, 108, 109, 110, 111, 112, 113, 114, 115, 116, 117, 118, 119, 120] (by decide +kernel) (by decide +kernel)) (goodIn_sub (fun _ h => List.mem_cons_of_mem _ (List.mem_append_right _ h)) (by decide +kernel))
set_option maxRecDepth 20000 in
theorem gL_build_X4_build : GoodIn wsL_build (wsV RL 43 RX4 yX4_build wsX4_build) := goodIn_app (goodIn_of _ (by decide +kernel)) ggL_build_X4_build
theorem dL_build_0 : decode cL_build 0 = .ok (.aload_n 1, 1) := by decide +kernel
theorem dL_build_1 : decode cL_build 1 = .ok (.iconst 0, 1) := by decide +kernel
theorem dL_build_2 : decode cL_build 2 = .ok (.aload_n 0, 1) := by decide +kernel
theorem dL_build_3 : decode cL_build 3 = .ok (.invokevirtual 43, 3) := by decide +kernel
theorem dL_build_6 : decode cL_build 6 = .ok (.i2l, 1) := by decide +kernel
theorem dL_build_7 : decode cL_build 7 = .ok (.lastore, 1) := by decide +kernel
theorem dL_build_8 : decode cL_build 8 = .ok (.goto 6, 3) := by decide +kernel
theorem dL_build_11 : decode cL_build 11 = .ok (.astore_n 2, 1) := by decide +kernel
theorem dL_build_12 : decode cL_build 12 = .ok (.iconst 1, 1) := by decide +kernel
theorem dL_build_13 : decode cL_build 13 = .ok (.ireturn, 1) := by decide +kernel
theorem dL_build_14 : decode cL_build 14 = .ok (.iconst 0, 1) := by decide +kernel
theorem dL_build_15 : decode cL_build 15 = .ok (.ireturn, 1) := by decide +kernel
set_option maxRecDepth 20000 in
theorem ggL_undo_X4_undo : GoodIn wsL_undo wsX4_undo := goodIn_ca (goodIn_r _ [6, 7, 8, 9, 10, 11, 12, 13, 14, 15, 16, 17, 18, 19, 20, 21, 22, 23, 24, 25, 26, 27, 28, 29, 30, 31, 32, 33, 5, 34, 35, 36, 37, 38, 39, 40, 41, 42, 43, 44, 45, 46, 47, 48, 49, 50, 51] (by decide +kernel) (by decide +kernel)) (goodIn_sub (fun _ h => List.mem_cons_of_mem _ (List.mem_append_right _ h)) (by decide +kernel))
set_option maxRecDepth 20000 in
theorem gL_undo_X4_undo : GoodIn wsL_undo (wsV RL 47 RX4 yX4_undo wsX4_undo) := goodIn_app (goodIn_of _ (by decide +kernel)) ggL_undo_X4_undo
theorem dL_undo_0 : decode cL_undo 0 = .ok (.aload_n 1, 1) := by decide +kernel
theorem dL_undo_1 : decode cL_undo 1 = .ok (.iconst 0, 1) := by decide +kernel
theorem dL_undo_2 : decode cL_undo 2 = .ok (.aload_n 0, 1) := by decide +kernel
theorem dL_undo_3 : decode cL_undo 3 = .ok (.invokevirtual 47, 3) := by decide +kernel
theorem dL_undo_6 : decode cL_undo 6 = .ok (.i2l, 1) := by decide +kernel
theorem dL_undo_7 : decode cL_undo 7 = .ok (.lastore, 1) := by decide +kernel
theorem dL_undo_8 : decode cL_undo 8 = .ok (.goto 6, 3) := by decide +kernel
theorem dL_undo_11 : decode cL_undo 11 = .ok (.astore_n 2, 1) := by decide +kernel
theorem dL_undo_12 : decode cL_undo 12 = .ok (.iconst 1, 1) := by decide +kernel
theorem dL_undo_13 : decode cL_undo 13 = .ok (.ireturn, 1) := by decide +kernel
theorem dL_undo_14 : decode cL_undo 14 = .ok (.iconst 0, 1) := by decide +kernel
theorem dL_undo_15 : decode cL_undo 15 = .ok (.ireturn, 1) := by decide +kernel
set_option maxRecDepth 20000 in
theorem ggL_stack_X4_stack : GoodIn wsL_stack wsX4_stack := goodIn_ca (goodIn_ca (goodIn_r _ [7, 8, 9, 10, 11, 6, 12, 13, 14, 15, 16, 17, 18, 19, 20, 21, 22, 23, 24, 25, 26, 27, 28, 29, 30, 31, 32, 33, 34, 35, 36, 37, 38, 39, 40, 41, 42, 43, 44, 45, 46, 47, 48, 49, 50, 51, 52, 53, 54, 55, 56, 57, 58, 59, 60, 61, 62, 63, 64, 65, 66, 67, 68, 69, 70, 71, 72, 73, 74, 75, 76, 77, 78, 79, 80, 81, 82, 83, 84, 85, 86, 87, 88, 89, 90, 91, 92, 93, 94, 95, 96, 97, 98, 99, 100, 101, 102, 103, 104, 105, 106, 107, 108, 109, 110, 111, 112, 113, 114, 115, 116, 117, 118, 119, 120, 121, 122, 123, 124, 125, 126, 127, 128, 129, 130, 131, 132, 133, 134, 135, 136, 137] (by decide +kernel) (by decide +kernel)) (goodIn_sub (fun _ h => List.mem_cons_of_mem _ (List.mem_append_left _ (List.mem_append_right _ h))) (by decide +kernel))) (goodIn_sub (fun _ h => List.mem_cons_of_mem _ (List.mem_append_right _ h)) (by decide +kernel))
set_option maxRecDepth 20000 in
theorem gL_stack_X4_stack : GoodIn wsL_stack (wsV RL 50 RX4 yX4_stack wsX4_stack) := goodIn_app (goodIn_of _ (by decide +kernel)) ggL_stack_X4_stack
theorem dL_stack_0 : decode cL_stack 0 = .ok (.aload 4, 2) := by decide +kernel
theorem dL_stack_2 : decode cL_stack 2 = .ok (.iconst 0, 1) := by decide +kernel
theorem dL_stack_3 : decode cL_stack 3 = .ok (.aload_n 0, 1) := by decide +kernel
theorem dL_stack_4 : decode cL_stack 4 = .ok (.iload_n 1, 1) := by decide +kernel
theorem dL_stack_5 : decode cL_stack 5 = .ok (.iload_n 2, 1) := by decide +kernel
theorem dL_stack_6 : decode cL_stack 6 = .ok (.iload_n 3, 1) := by decide +kernel
theorem dL_stack_7 : decode cL_stack 7 = .ok (.invokevirtual 50, 3) := by decide +kernel
theorem dL_stack_10 : decode cL_stack 10 = .ok (.i2l, 1) := by decide +kernel
theorem dL_stack_11 : decode cL_stack 11 = .ok (.lastore, 1) := by decide +kernel
theorem dL_stack_12 : decode cL_stack 12 = .ok (.goto 11, 3) := by decide +kernel
theorem dL_stack_15 : decode cL_stack 15 = .ok (.astore 5, 2) := by decide +kernel
theorem dL_stack_17 : decode cL_stack 17 = .ok (.iconst 1, 1) := by decide +kernel
theorem dL_stack_18 : decode cL_stack 18 = .ok (.ireturn, 1) := by decide +kernel
theorem dL_stack_19 : decode cL_stack 19 = .ok (.astore 5, 2) := by decide +kernel
theorem dL_stack_21 : decode cL_stack 21 = .ok (.iconst 2, 1) := by decide +kernel
theorem dL_stack_22 : decode cL_stack 22 = .ok (.ireturn, 1) := by decide +kernel
theorem dL_stack_23 : decode cL_stack 23 = .ok (.iconst 0, 1) := by decide +kernel
theorem dL_stack_24 : decode cL_stack 24 = .ok (.ireturn, 1) := by decide +kernel
set_option maxRecDepth 20000 in
theorem ggL_block_X4_block : GoodIn wsL_block wsX4_block := goodIn_ca (goodIn_ca (goodIn_r _ [7, 8, 9, 10, 11, 6, 12, 13, 14, 15, 16, 17, 18, 19, 20, 21, 22, 23, 24, 25, 26, 27, 28, 29, 30, 31, 32, 33, 34, 35, 36, 37, 38, 39, 40, 41, 42, 43, 44, 45, 46, 47, 48, 49, 50, 51, 52, 53, 54, 55, 56, 57, 58, 59, 60, 61, 62, 63, 64, 65, 66, 67, 68, 69, 70, 71, 72, 73, 74, 75, 76, 77, 78, 79, 80, 81, 82, 83, 84, 85, 86, 87, 88, 89, 90, 91, 92, 93, 94, 95, 96, 97, 98, 99, 100, 101, 102, 103, 104, 105, 106, 107, 108, 109, 110, 111, 112, 113, 114, 115, 116, 117, 118, 119, 120, 121, 122, 123, 124, 125, 126, 127, 128] (by decide +kernel) (by decide +kernel)) (goodIn_sub (fun _ h => List.mem_cons_of_mem _ (List.mem_append_left _ (List.mem_append_right _ h))) (by decide +kernel))) (goodIn_sub (fun _ h => List.mem_cons_of_mem _ (List.mem_append_right _ h)) (by decide +kernel))
set_option maxRecDepth 20000 in
theorem gL_block_X4_block : GoodIn wsL_block (wsV RL 53 RX4 yX4_block wsX4_block) := goodIn_app (goodIn_of _ (by decide +kernel)) ggL_block_X4_block
theorem dL_block_0 : decode cL_block 0 = .ok (.aload 5, 2) := by decide +kernel
theorem dL_block_2 : decode cL_block 2 = .ok (.iconst 0, 1) := by decide +kernel
theorem dL_block_3 : decode cL_block 3 = .ok (.aload_n 0, 1) := by decide +kernel
theorem dL_block_4 : decode cL_block 4 = .ok (.iload_n 1, 1) := by decide +kernel
theorem dL_block_5 : decode cL_block 5 = .ok (.iload_n 2, 1) := by decide +kernel
theorem dL_block_6 : decode cL_block 6 = .ok (.iload_n 3, 1) := by decide +kernel
theorem dL_block_7 : decode cL_block 7 = .ok (.iload 4, 2) := by decide +kernel
theorem dL_block_9 : decode cL_block 9 = .ok (.invokevirtual 53, 3) := by decide +kernel
theorem dL_block_12 : decode cL_block 12 = .ok (.i2l, 1) := by decide +kernel
theorem dL_block_13 : decode cL_block 13 = .ok (.lastore, 1) := by decide +kernel
theorem dL_block_14 : decode cL_block 14 = .ok (.goto 11, 3) := by decide +kernel
theorem dL_block_17 : decode cL_block 17 = .ok (.astore 6, 2) := by decide +kernel
theorem dL_block_19 : decode cL_block 19 = .ok (.iconst 1, 1) := by decide +kernel
theorem dL_block_20 : decode cL_block 20 = .ok (.ireturn, 1) := by decide +kernel
theorem dL_block_21 : decode cL_block 21 = .ok (.astore 6, 2) := by decide +kernel
theorem dL_block_23 : decode cL_block 23 = .ok (.iconst 2, 1) := by decide +kernel
theorem dL_block_24 : decode cL_block 24 = .ok (.ireturn, 1) := by decide +kernel
theorem dL_block_25 : decode cL_block 25 = .ok (.iconst 0, 1) := by decide +kernel
theorem dL_block_26 : decode cL_block 26 = .ok (.ireturn, 1) := by decide +kernel
set_option maxRecDepth 20000 in
theorem ggL_picture_X4_picture : GoodIn wsL_picture wsX4_picture := goodIn_ca (goodIn_r _ [6, 7, 8, 9, 5, 10, 11, 12, 13, 14, 15, 16, 17, 18, 19, 20, 21, 22, 23, 24, 25, 26, 27, 28, 29, 30, 31, 32, 33, 34, 35, 36, 37, 38, 39, 40, 41, 42, 43, 44, 45, 46, 47, 48, 49, 50, 51, 52, 53, 54, 55, 56, 57, 58, 59, 60, 61, 62, 63, 64, 65, 66, 67, 68, 69, 70, 71, 72, 73, 74, 75, 76, 77, 78, 79, 80, 81, 82, 83, 84, 85, 86, 87, 88, 89, 90, 91, 92, 93, 94, 95, 96, 97, 98, 99, 100, 101, 102, 103, 104, 105, 106, 107, 108, 109, 110, 111, 112, 113, 114, 115, 116, 117, 118, 119, 120, 121, 122] (by decide +kernel) (by decide +kernel)) (goodIn_sub (fun _ h => List.mem_cons_of_mem _ (List.mem_append_right _ h)) (by decide +kernel))
set_option maxRecDepth 20000 in
theorem gL_picture_X4_picture : GoodIn wsL_picture (wsV RL 56 RX4 yX4_picture wsX4_picture) := goodIn_app (goodIn_of _ (by decide +kernel)) ggL_picture_X4_picture
theorem dL_picture_0 : decode cL_picture 0 = .ok (.aload 5, 2) := by decide +kernel
theorem dL_picture_2 : decode cL_picture 2 = .ok (.iconst 0, 1) := by decide +kernel
theorem dL_picture_3 : decode cL_picture 3 = .ok (.aload_n 0, 1) := by decide +kernel
theorem dL_picture_4 : decode cL_picture 4 = .ok (.iload_n 1, 1) := by decide +kernel
theorem dL_picture_5 : decode cL_picture 5 = .ok (.iload_n 2, 1) := by decide +kernel
theorem dL_picture_6 : decode cL_picture 6 = .ok (.iload_n 3, 1) := by decide +kernel
theorem dL_picture_7 : decode cL_picture 7 = .ok (.iload 4, 2) := by decide +kernel
theorem dL_picture_9 : decode cL_picture 9 = .ok (.invokevirtual 56, 3) := by decide +kernel
theorem dL_picture_12 : decode cL_picture 12 = .ok (.i2l, 1) := by decide +kernel
theorem dL_picture_13 : decode cL_picture 13 = .ok (.lastore, 1) := by decide +kernel
theorem dL_picture_14 : decode cL_picture 14 = .ok (.goto 7, 3) := by decide +kernel
theorem dL_picture_17 : decode cL_picture 17 = .ok (.astore 6, 2) := by decide +kernel
theorem dL_picture_19 : decode cL_picture 19 = .ok (.iconst 1, 1) := by decide +kernel
theorem dL_picture_20 : decode cL_picture 20 = .ok (.ireturn, 1) := by decide +kernel
theorem dL_picture_21 : decode cL_picture 21 = .ok (.iconst 0, 1) := by decide +kernel
theorem dL_picture_22 : decode cL_picture 22 = .ok (.ireturn, 1) := by decide +kernel
set_option maxRecDepth 20000 in
theorem ggL_elevation_X4_elevation : GoodIn wsL_elevation wsX4_elevation := goodIn_ca (goodIn_ca (goodIn_r _ [7, 8, 9, 10, 11, 6, 12, 13, 14, 15, 16, 17, 18, 19, 20, 21, 22, 23, 24, 25, 26, 27, 28, 29, 30, 31, 32, 33, 34, 35, 36, 37, 38, 39, 40, 41, 42, 43, 44, 45, 46, 47, 48, 49, 50, 51, 52, 53, 54, 55, 56, 57, 58, 59, 60, 61, 62, 63, 64] (by decide +kernel) (by decide +kernel)) (goodIn_sub (fun _ h => List.mem_cons_of_mem _ (List.mem_append_left _ (List.mem_append_right _ h))) (by decide +kernel))) (goodIn_sub (fun _ h => List.mem_cons_of_mem _ (List.mem_append_right _ h)) (by decide +kernel))
set_option maxRecDepth 20000 in
theorem gL_elevation_X4_elevation : GoodIn wsL_elevation (wsV RL 59 RX4 yX4_elevation wsX4_elevation) := goodIn_app (goodIn_of _ (by decide +kernel)) ggL_elevation_X4_elevation
theorem dL_elevation_0 : decode cL_elevation 0 = .ok (.aload 4, 2) := by decide +kernel
theorem dL_elevation_2 : decode cL_elevation 2 = .ok (.iconst 0, 1) := by decide +kernel
theorem dL_elevation_3 : decode cL_elevation 3 = .ok (.aload_n 0, 1) := by decide +kernel
theorem dL_elevation_4 : decode cL_elevation 4 = .ok (.iload_n 1, 1) := by decide +kernel
theorem dL_elevation_5 : decode cL_elevation 5 = .ok (.iload_n 2, 1) := by decide +kernel
theorem dL_elevation_6 : decode cL_elevation 6 = .ok (.iload_n 3, 1) := by decide +kernel
theorem dL_elevation_7 : decode cL_elevation 7 = .ok (.invokevirtual 59, 3) := by decide +kernel
theorem dL_elevation_10 : decode cL_elevation 10 = .ok (.i2l, 1) := by decide +kernel
theorem dL_elevation_11 : decode cL_elevation 11 = .ok (.lastore, 1) := by decide +kernel
theorem dL_elevation_12 : decode cL_elevation 12 = .ok (.goto 11, 3) := by decide +kernel
theorem dL_elevation_15 : decode cL_elevation 15 = .ok (.astore 5, 2) := by decide +kernel
theorem dL_elevation_17 : decode cL_elevation 17 = .ok (.iconst 1, 1) := by decide +kernel
theorem dL_elevation_18 : decode cL_elevation 18 = .ok (.ireturn, 1) := by decide +kernel
theorem dL_elevation_19 : decode cL_elevation 19 = .ok (.astore 5, 2) := by decide +kernel
theorem dL_elevation_21 : decode cL_elevation 21 = .ok (.iconst 2, 1) := by decide +kernel
theorem dL_elevation_22 : decode cL_elevation 22 = .ok (.ireturn, 1) := by decide +kernel
theorem dL_elevation_23 : decode cL_elevation 23 = .ok (.iconst 0, 1) := by decide +kernel
theorem dL_elevation_24 : decode cL_elevation 24 = .ok (.ireturn, 1) := by decide +kernel
set_option maxRecDepth 20000 in
theorem ggL_cut_X4_cut : GoodIn wsL_cut wsX4_cut := goodIn_ca (goodIn_ca (goodIn_r _ [7, 8, 9, 10, 11, 6, 12, 13, 14, 15, 16, 17, 18, 19, 20, 21, 22, 23, 24, 25, 26, 27, 28, 29, 30, 31, 32, 33, 34, 35, 36, 37, 38, 39, 40, 41, 42, 43, 44] (by decide +kernel) (by decide +kernel)) (goodIn_sub (fun _ h => List.mem_cons_of_mem _ (List.mem_append_left _ (List.mem_append_right _ h))) (by decide +kernel))) (goodIn_sub (fun _ h => List.mem_cons_of_mem _ (List.mem_append_right _ h)) (by decide +kernel))
set_option maxRecDepth 20000 in
theorem gL_cut_X4_cut : GoodIn wsL_cut (wsV RL 62 RX4 yX4_cut wsX4_cut) := goodIn_app (goodIn_of _ (by decide +kernel)) ggL_cut_X4_cut
theorem dL_cut_0 : decode cL_cut 0 = .ok (.aload_n 3, 1) := by decide +kernel
theorem dL_cut_1 : decode cL_cut 1 = .ok (.iconst 0, 1) := by decide +kernel
theorem dL_cut_2 : decode cL_cut 2 = .ok (.aload_n 0, 1) := by decide +kernel
theorem dL_cut_3 : decode cL_cut 3 = .ok (.iload_n 1, 1) := by decide +kernel
theorem dL_cut_4 : decode cL_cut 4 = .ok (.iload_n 2, 1) := by decide +kernel
theorem dL_cut_5 : decode cL_cut 5 = .ok (.invokevirtual 62, 3) := by decide +kernel
theorem dL_cut_8 : decode cL_cut 8 = .ok (.i2l, 1) := by decide +kernel
theorem dL_cut_9 : decode cL_cut 9 = .ok (.lastore, 1) := by decide +kernel
theorem dL_cut_10 : decode cL_cut 10 = .ok (.goto 11, 3) := by decide +kernel
theorem dL_cut_13 : decode cL_cut 13 = .ok (.astore 4, 2) := by decide +kernel
theorem dL_cut_15 : decode cL_cut 15 = .ok (.iconst 1, 1) := by decide +kernel
theorem dL_cut_16 : decode cL_cut 16 = .ok (.ireturn, 1) := by decide +kernel
theorem dL_cut_17 : decode cL_cut 17 = .ok (.astore 4, 2) := by decide +kernel
theorem dL_cut_19 : decode cL_cut 19 = .ok (.iconst 2, 1) := by decide +kernel
theorem dL_cut_20 : decode cL_cut 20 = .ok (.ireturn, 1) := by decide +kernel
theorem dL_cut_21 : decode cL_cut 21 = .ok (.iconst 0, 1) := by decide +kernel
theorem dL_cut_22 : decode cL_cut 22 = .ok (.ireturn, 1) := by decide +kernel
set_option maxRecDepth 20000 in
theorem ggL_count_X4_count : GoodIn wsL_count wsX4_count := goodIn_ca (goodIn_r _ [6, 7, 8, 9, 10, 5, 11, 12, 13, 14, 15, 16, 17, 18, 19, 20, 21, 22, 23, 24, 25, 26, 27, 28, 29, 30, 31, 32, 33, 34, 35, 36, 37, 38, 39, 40, 41, 42, 43, 44, 45, 46, 47, 48, 49, 50, 51, 52, 53, 54, 55, 56, 57, 58, 59, 60, 61, 62, 63, 64, 65, 66, 67, 68, 69, 70, 71, 72, 73, 74, 75, 76, 77, 78, 79, 80, 81, 82, 83, 84, 85, 86, 87, 88, 89, 90, 91, 92, 93, 94, 95, 96, 97, 98, 99, 100, 101, 102, 103, 104, 105, 106, 107, 108, 109, 110, 111, 112, 113, 114, 115, 116, 117, 118, 119, 120, 121, 122, 123, 124, 125, 126, 127, 128, 129, 130, 131, 132, 133, 134, 135, 136, 137, 138, 139, 140, 141, 142, 143, 144, 145, 146, 147, 148, 149, 150, 151, 152, 153, 154, 155, 156, 157, 158, 159, 160, 161, 162] (by decide +kernel) (by decide +kernel)) (goodIn_sub (fun _ h => List.mem_cons_of_mem _ (List.mem_append_right _ h)) (by decide +kernel))
set_option maxRecDepth 20000 in
theorem gL_count_X4_count : GoodIn wsL_count (wsV RL 65 RX4 yX4_count wsX4_count) := goodIn_app (goodIn_of _ (by decide +kernel)) ggL_count_X4_count
theorem dL_count_0 : decode cL_count 0 = .ok (.aload_n 2, 1) := by decide +kernel
theorem dL_count_1 : decode cL_count 1 = .ok (.iconst 0, 1) := by decide +kernel
theorem dL_count_2 : decode cL_count 2 = .ok (.aload_n 0, 1) := by decide +kernel
theorem dL_count_3 : decode cL_count 3 = .ok (.iload_n 1, 1) := by decide +kernel
theorem dL_count_4 : decode cL_count 4 = .ok (.invokevirtual 65, 3) := by decide +kernel
theorem dL_count_7 : decode cL_count 7 = .ok (.i2l, 1) := by decide +kernel
theorem dL_count_8 : decode cL_count 8 = .ok (.lastore, 1) := by decide +kernel
theorem dL_count_9 : decode cL_count 9 = .ok (.goto 6, 3) := by decide +kernel
theorem dL_count_12 : decode cL_count 12 = .ok (.astore_n 3, 1) := by decide +kernel
theorem dL_count_13 : decode cL_count 13 = .ok (.iconst 1, 1) := by decide +kernel
theorem dL_count_14 : decode cL_count 14 = .ok (.ireturn, 1) := by decide +kernel
theorem dL_count_15 : decode cL_count 15 = .ok (.iconst 0, 1) := by decide +kernel
theorem dL_count_16 : decode cL_count 16 = .ok (.ireturn, 1) := by decide +kernel
set_option maxRecDepth 20000 in
theorem ggL_ifPut_X4_ifPut : GoodIn wsL_ifPut wsX4_ifPut := goodIn_ca (goodIn_ca (goodIn_r _ [7, 8, 9, 10, 11, 12, 6, 13, 14, 15, 16, 17, 18, 19, 20, 21, 22, 23, 24, 25, 26, 27, 28, 29, 30, 31, 32, 33, 34, 35, 36, 37, 38, 39, 40, 41, 42, 43, 44, 45, 46, 47, 48, 49, 50, 51, 52, 53, 54, 55, 56, 57, 58, 59, 60, 61, 62, 63, 64, 65, 66, 67, 68, 69, 70, 71, 72, 73, 74, 75, 76, 77, 78, 79, 80, 81, 82, 83, 84, 85, 86, 87, 88, 89, 90, 91, 92, 93, 94, 95, 96, 97, 98, 99, 100, 101, 102, 103, 104, 105, 106, 107, 108, 109, 110, 111, 112, 113, 114, 115, 116, 117, 118, 119, 120, 121, 122, 123, 124, 125, 126, 127, 128, 129, 130, 131, 132, 133, 134, 135, 136, 137, 138, 139, 140, 141, 142, 143, 144, 145, 146, 147, 148, 149, 150, 151, 152, 153, 154, 155, 156] (by decide +kernel) (by decide +kernel)) (goodIn_sub (fun _ h => List.mem_cons_of_mem _ (List.mem_append_left _ (List.mem_append_right _ h))) (by decide +kernel))) (goodIn_sub (fun _ h => List.mem_cons_of_mem _ (List.mem_append_right _ h)) (by decide +kernel))
set_option maxRecDepth 20000 in
theorem gL_ifPut_X4_ifPut : GoodIn wsL_ifPut (wsV RL 68 RX4 yX4_ifPut wsX4_ifPut) := goodIn_app (goodIn_of _ (by decide +kernel)) ggL_ifPut_X4_ifPut
theorem dL_ifPut_0 : decode cL_ifPut 0 = .ok (.aload 4, 2) := by decide +kernel
theorem dL_ifPut_2 : decode cL_ifPut 2 = .ok (.iconst 0, 1) := by decide +kernel
theorem dL_ifPut_3 : decode cL_ifPut 3 = .ok (.aload_n 0, 1) := by decide +kernel
theorem dL_ifPut_4 : decode cL_ifPut 4 = .ok (.iload_n 1, 1) := by decide +kernel
theorem dL_ifPut_5 : decode cL_ifPut 5 = .ok (.iload_n 2, 1) := by decide +kernel
theorem dL_ifPut_6 : decode cL_ifPut 6 = .ok (.iload_n 3, 1) := by decide +kernel
theorem dL_ifPut_7 : decode cL_ifPut 7 = .ok (.invokevirtual 68, 3) := by decide +kernel
theorem dL_ifPut_10 : decode cL_ifPut 10 = .ok (.i2l, 1) := by decide +kernel
theorem dL_ifPut_11 : decode cL_ifPut 11 = .ok (.lastore, 1) := by decide +kernel
theorem dL_ifPut_12 : decode cL_ifPut 12 = .ok (.goto 11, 3) := by decide +kernel
theorem dL_ifPut_15 : decode cL_ifPut 15 = .ok (.astore 5, 2) := by decide +kernel
theorem dL_ifPut_17 : decode cL_ifPut 17 = .ok (.iconst 1, 1) := by decide +kernel
theorem dL_ifPut_18 : decode cL_ifPut 18 = .ok (.ireturn, 1) := by decide +kernel
theorem dL_ifPut_19 : decode cL_ifPut 19 = .ok (.astore 5, 2) := by decide +kernel
theorem dL_ifPut_21 : decode cL_ifPut 21 = .ok (.iconst 2, 1) := by decide +kernel
theorem dL_ifPut_22 : decode cL_ifPut 22 = .ok (.ireturn, 1) := by decide +kernel
theorem dL_ifPut_23 : decode cL_ifPut 23 = .ok (.iconst 0, 1) := by decide +kernel
theorem dL_ifPut_24 : decode cL_ifPut 24 = .ok (.ireturn, 1) := by decide +kernel
set_option maxRecDepth 20000 in
theorem ggL_ifHour_X4_ifHour : GoodIn wsL_ifHour wsX4_ifHour := goodIn_ca (goodIn_r _ [6, 7, 8, 9, 5, 10, 11, 12, 13, 14, 15, 16, 17, 18, 19, 20, 21, 22, 23, 24, 25, 26, 27, 28, 29, 30, 31, 32, 33, 34, 35, 36, 37, 38, 39, 40, 41, 42, 43, 44, 45, 46, 47, 48, 49] (by decide +kernel) (by decide +kernel)) (goodIn_sub (fun _ h => List.mem_cons_of_mem _ (List.mem_append_right _ h)) (by decide +kernel))
set_option maxRecDepth 20000 in
theorem gL_ifHour_X4_ifHour : GoodIn wsL_ifHour (wsV RL 71 RX4 yX4_ifHour wsX4_ifHour) := goodIn_app (goodIn_of _ (by decide +kernel)) ggL_ifHour_X4_ifHour
theorem dL_ifHour_0 : decode cL_ifHour 0 = .ok (.aload_n 2, 1) := by decide +kernel
theorem dL_ifHour_1 : decode cL_ifHour 1 = .ok (.iconst 0, 1) := by decide +kernel
theorem dL_ifHour_2 : decode cL_ifHour 2 = .ok (.aload_n 0, 1) := by decide +kernel
theorem dL_ifHour_3 : decode cL_ifHour 3 = .ok (.iload_n 1, 1) := by decide +kernel
theorem dL_ifHour_4 : decode cL_ifHour 4 = .ok (.invokevirtual 71, 3) := by decide +kernel
theorem dL_ifHour_7 : decode cL_ifHour 7 = .ok (.i2l, 1) := by decide +kernel
theorem dL_ifHour_8 : decode cL_ifHour 8 = .ok (.lastore, 1) := by decide +kernel
theorem dL_ifHour_9 : decode cL_ifHour 9 = .ok (.goto 6, 3) := by decide +kernel
theorem dL_ifHour_12 : decode cL_ifHour 12 = .ok (.astore_n 3, 1) := by decide +kernel
theorem dL_ifHour_13 : decode cL_ifHour 13 = .ok (.iconst 1, 1) := by decide +kernel
theorem dL_ifHour_14 : decode cL_ifHour 14 = .ok (.ireturn, 1) := by decide +kernel
theorem dL_ifHour_15 : decode cL_ifHour 15 = .ok (.iconst 0, 1) := by decide +kernel
theorem dL_ifHour_16 : decode cL_ifHour 16 = .ok (.ireturn, 1) := by decide +kernel
set_option maxRecDepth 20000 in
theorem ggL_same_X4_same : GoodIn wsL_same wsX4_same := goodIn_ca (goodIn_r _ [6, 7, 8, 9, 5, 10, 11, 12, 13, 14, 15, 16, 17, 18, 19, 20, 21, 22, 23, 24, 25, 26, 27, 28, 29, 30, 31, 32, 33, 34, 35, 36, 37, 38, 39, 40, 41, 42, 43, 44, 45, 46, 47, 48, 49, 50, 51, 52, 53, 54, 55, 56, 57, 58, 59, 60, 61, 62, 63, 64] (by decide +kernel) (by decide +kernel)) (goodIn_sub (fun _ h => List.mem_cons_of_mem _ (List.mem_append_right _ h)) (by decide +kernel))
set_option maxRecDepth 20000 in
theorem gL_same_X4_same : GoodIn wsL_same (wsV RL 74 RX4 yX4_same wsX4_same) := goodIn_app (goodIn_of _ (by decide +kernel)) ggL_same_X4_same
theorem dL_same_0 : decode cL_same 0 = .ok (.aload_n 2, 1) := by decide +kernel
theorem dL_same_1 : decode cL_same 1 = .ok (.iconst 0, 1) := by decide +kernel
theorem dL_same_2 : decode cL_same 2 = .ok (.aload_n 0, 1) := by decide +kernel
theorem dL_same_3 : decode cL_same 3 = .ok (.iload_n 1, 1) := by decide +kernel
theorem dL_same_4 : decode cL_same 4 = .ok (.invokevirtual 74, 3) := by decide +kernel
theorem dL_same_7 : decode cL_same 7 = .ok (.i2l, 1) := by decide +kernel
theorem dL_same_8 : decode cL_same 8 = .ok (.lastore, 1) := by decide +kernel
theorem dL_same_9 : decode cL_same 9 = .ok (.goto 6, 3) := by decide +kernel
theorem dL_same_12 : decode cL_same 12 = .ok (.astore_n 3, 1) := by decide +kernel
theorem dL_same_13 : decode cL_same 13 = .ok (.iconst 1, 1) := by decide +kernel
theorem dL_same_14 : decode cL_same 14 = .ok (.ireturn, 1) := by decide +kernel
theorem dL_same_15 : decode cL_same 15 = .ok (.iconst 0, 1) := by decide +kernel
theorem dL_same_16 : decode cL_same 16 = .ok (.ireturn, 1) := by decide +kernel
