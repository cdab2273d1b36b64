theorem dX4_init_0 : decode cX4_init 0 = .ok (.aload_n 0, 1) := by decide +kernel
theorem dX4_init_1 : decode cX4_init 1 = .ok (.invokespecial 3, 3) := by decide +kernel
theorem dX4_init_4 : decode cX4_init 4 = .ok (.aload_n 0, 1) := by decide +kernel
theorem dX4_init_5 : decode cX4_init 5 = .ok (.new 9, 3) := by decide +kernel
theorem dX4_init_8 : decode cX4_init 8 = .ok (.dup, 1) := by decide +kernel
theorem dX4_init_9 : decode cX4_init 9 = .ok (.invokespecial 11, 3) := by decide +kernel
theorem dX4_init_12 : decode cX4_init 12 = .ok (.putfield 12, 3) := by decide +kernel
theorem dX4_init_15 : decode cX4_init 15 = .ok (.aload_n 0, 1) := by decide +kernel
theorem dX4_init_16 : decode cX4_init 16 = .ok (.new 16, 3) := by decide +kernel
theorem dX4_init_19 : decode cX4_init 19 = .ok (.dup, 1) := by decide +kernel
theorem dX4_init_20 : decode cX4_init 20 = .ok (.invokespecial 18, 3) := by decide +kernel
theorem dX4_init_23 : decode cX4_init 23 = .ok (.putfield 19, 3) := by decide +kernel
theorem dX4_init_26 : decode cX4_init 26 = .ok (.aload_n 0, 1) := by decide +kernel
theorem dX4_init_27 : decode cX4_init 27 = .ok (.new 23, 3) := by decide +kernel
theorem dX4_init_30 : decode cX4_init 30 = .ok (.dup, 1) := by decide +kernel
theorem dX4_init_31 : decode cX4_init 31 = .ok (.invokespecial 25, 3) := by decide +kernel
theorem dX4_init_34 : decode cX4_init 34 = .ok (.putfield 26, 3) := by decide +kernel
theorem dX4_init_37 : decode cX4_init 37 = .ok (.aload_n 0, 1) := by decide +kernel
theorem dX4_init_38 : decode cX4_init 38 = .ok (.new 30, 3) := by decide +kernel
theorem dX4_init_41 : decode cX4_init 41 = .ok (.dup, 1) := by decide +kernel
theorem dX4_init_42 : decode cX4_init 42 = .ok (.invokespecial 32, 3) := by decide +kernel
theorem dX4_init_45 : decode cX4_init 45 = .ok (.putfield 33, 3) := by decide +kernel
theorem dX4_init_48 : decode cX4_init 48 = .ok (.aload_n 0, 1) := by decide +kernel
theorem dX4_init_49 : decode cX4_init 49 = .ok (.new 9, 3) := by decide +kernel
theorem dX4_init_52 : decode cX4_init 52 = .ok (.dup, 1) := by decide +kernel
theorem dX4_init_53 : decode cX4_init 53 = .ok (.invokespecial 11, 3) := by decide +kernel
theorem dX4_init_56 : decode cX4_init 56 = .ok (.putfield 37, 3) := by decide +kernel
theorem dX4_init_59 : decode cX4_init 59 = .ok (.aload_n 0, 1) := by decide +kernel
theorem dX4_init_60 : decode cX4_init 60 = .ok (.new 9, 3) := by decide +kernel
theorem dX4_init_63 : decode cX4_init 63 = .ok (.dup, 1) := by decide +kernel
theorem dX4_init_64 : decode cX4_init 64 = .ok (.invokespecial 11, 3) := by decide +kernel
theorem dX4_init_67 : decode cX4_init 67 = .ok (.putfield 40, 3) := by decide +kernel
theorem dX4_init_70 : decode cX4_init 70 = .ok (.aload_n 0, 1) := by decide +kernel
theorem dX4_init_71 : decode cX4_init 71 = .ok (.new 16, 3) := by decide +kernel
theorem dX4_init_74 : decode cX4_init 74 = .ok (.dup, 1) := by decide +kernel
theorem dX4_init_75 : decode cX4_init 75 = .ok (.invokespecial 18, 3) := by decide +kernel
theorem dX4_init_78 : decode cX4_init 78 = .ok (.putfield 43, 3) := by decide +kernel
theorem dX4_init_81 : decode cX4_init 81 = .ok (.aload_n 0, 1) := by decide +kernel
theorem dX4_init_82 : decode cX4_init 82 = .ok (.iconst 0, 1) := by decide +kernel
theorem dX4_init_83 : decode cX4_init 83 = .ok (.putfield 46, 3) := by decide +kernel
theorem dX4_init_86 : decode cX4_init 86 = .ok (.return_, 1) := by decide +kernel
set_option maxRecDepth 20000 in
theorem ggX4_begin_X4_needRange : GoodIn wsX4_begin wsX4_needRange := goodIn_ca (goodIn_r _ [5, 6, 7] (by decide +kernel) (by decide +kernel)) (goodIn_sub (fun _ h => List.mem_cons_of_mem _ (List.mem_append_right _ h)) (by decide +kernel))
set_option maxRecDepth 20000 in
theorem gX4_begin_X4_needRange : GoodIn wsX4_begin (va_wsS RX4 50 yX4_needRange wsX4_needRange) := goodIn_app (goodIn_of _ (by decide +kernel)) ggX4_begin_X4_needRange
set_option maxRecDepth 20000 in
theorem ggX4_begin_X4_saveState : GoodIn wsX4_begin wsX4_saveState := goodIn_r _ [11, 12, 1, 13, 14, 15, 16, 17, 18, 19, 20, 21, 22, 23, 24, 25, 26, 27, 28, 29, 30, 31, 32, 33, 34, 35, 4, 36, 37, 38, 47, 48, 49, 50, 51, 52, 53, 54, 55, 56, 57, 58, 59, 60, 61] (by decide +kernel) (by decide +kernel)
set_option maxRecDepth 20000 in
theorem gX4_begin_X4_saveState : GoodIn wsX4_begin (wsV RX4 54 RX4 yX4_saveState wsX4_saveState) := goodIn_app (goodIn_of _ (by decide +kernel)) ggX4_begin_X4_saveState
set_option maxRecDepth 20000 in
theorem ggX4_begin_X3_empty : GoodIn wsX4_begin wsX3_empty := goodIn_r _ [42, 31, 33, 34, 43, 44, 45, 46, 58, 59, 60, 61] (by decide +kernel) (by decide +kernel)
set_option maxRecDepth 20000 in
theorem gX4_begin_X3_empty : GoodIn wsX4_begin (wsV RX4 57 RX3 yX3_empty wsX3_empty) := goodIn_app (goodIn_of _ (by decide +kernel)) ggX4_begin_X3_empty
theorem dX4_begin_0 : decode cX4_begin 0 = .ok (.iload_n 1, 1) := by decide +kernel
theorem dX4_begin_1 : decode cX4_begin 1 = .ok (.iconst 2, 1) := by decide +kernel
theorem dX4_begin_2 : decode cX4_begin 2 = .ok (.bipush 6, 2) := by decide +kernel
theorem dX4_begin_4 : decode cX4_begin 4 = .ok (.invokestatic 50, 3) := by decide +kernel
theorem dX4_begin_7 : decode cX4_begin 7 = .ok (.aload_n 0, 1) := by decide +kernel
theorem dX4_begin_8 : decode cX4_begin 8 = .ok (.invokevirtual 54, 3) := by decide +kernel
theorem dX4_begin_11 : decode cX4_begin 11 = .ok (.aload_n 0, 1) := by decide +kernel
theorem dX4_begin_12 : decode cX4_begin 12 = .ok (.getfield 12, 3) := by decide +kernel
theorem dX4_begin_15 : decode cX4_begin 15 = .ok (.iload_n 1, 1) := by decide +kernel
theorem dX4_begin_16 : decode cX4_begin 16 = .ok (.invokevirtual 57, 3) := by decide +kernel
theorem dX4_begin_19 : decode cX4_begin 19 = .ok (.iload_n 1, 1) := by decide +kernel
theorem dX4_begin_20 : decode cX4_begin 20 = .ok (.iload_n 1, 1) := by decide +kernel
theorem dX4_begin_21 : decode cX4_begin 21 = .ok (.imul, 1) := by decide +kernel
theorem dX4_begin_22 : decode cX4_begin 22 = .ok (.ireturn, 1) := by decide +kernel
set_option maxRecDepth 20000 in
theorem ggX4_put_X4_needSquare : GoodIn wsX4_put wsX4_needSquare := goodIn_ca (goodIn_r _ [8, 9, 10, 3, 11, 12, 13, 14, 15, 16, 17, 18, 19, 20, 63, 64, 65, 66, 67, 68, 69, 70, 71, 72, 73, 74] (by decide +kernel) (by decide +kernel)) (goodIn_sub (fun _ h => List.mem_cons_of_mem _ (List.mem_append_left _ (List.mem_append_right _ h))) (by decide +kernel))
set_option maxRecDepth 20000 in
theorem gX4_put_X4_needSquare : GoodIn wsX4_put (wsV RX4 61 RX4 yX4_needSquare wsX4_needSquare) := goodIn_app (goodIn_of _ (by decide +kernel)) ggX4_put_X4_needSquare
set_option maxRecDepth 20000 in
theorem ggX4_put_X4_needRange : GoodIn wsX4_put wsX4_needRange := goodIn_ca (goodIn_r _ [23, 24, 25] (by decide +kernel) (by decide +kernel)) (goodIn_sub (fun _ h => List.mem_cons_of_mem _ (List.mem_append_right _ h)) (by decide +kernel))
set_option maxRecDepth 20000 in
theorem gX4_put_X4_needRange : GoodIn wsX4_put (va_wsS RX4 50 yX4_needRange wsX4_needRange) := goodIn_app (goodIn_of _ (by decide +kernel)) ggX4_put_X4_needRange
set_option maxRecDepth 20000 in
theorem ggX4_put_X3_heightAt : GoodIn wsX4_put wsX3_heightAt := goodIn_r _ [29, 30, 16, 17, 18, 14, 19, 20, 31, 7, 32, 71, 72, 73, 74] (by decide +kernel) (by decide +kernel)
set_option maxRecDepth 20000 in
theorem gX4_put_X3_heightAt : GoodIn wsX4_put (wsV RX4 65 RX3 yX3_heightAt wsX3_heightAt) := goodIn_app (goodIn_of _ (by decide +kernel)) ggX4_put_X3_heightAt
set_option maxRecDepth 20000 in
theorem ggX4_put_X4_saveState : GoodIn wsX4_put wsX4_saveState := goodIn_r _ [36, 37, 3, 38, 39, 40, 41, 42, 43, 44, 45, 46, 47, 48, 49, 50, 51, 52, 53, 14, 54, 20, 55, 30, 56, 31, 7, 32, 57, 58, 63, 64, 65, 66, 67, 68, 69, 70, 75, 76, 77, 71, 72, 73, 74] (by decide +kernel) (by decide +kernel)
set_option maxRecDepth 20000 in
theorem gX4_put_X4_saveState : GoodIn wsX4_put (wsV RX4 54 RX4 yX4_saveState wsX4_saveState) := goodIn_app (goodIn_of _ (by decide +kernel)) ggX4_put_X4_saveState
set_option maxRecDepth 20000 in
theorem ggX4_put_X3_addBlock : GoodIn wsX4_put wsX3_addBlock := goodIn_r _ [62, 30, 56, 16, 17, 18, 14, 19, 20, 31, 7, 32, 57, 58, 71, 72, 73, 74] (by decide +kernel) (by decide +kernel)
set_option maxRecDepth 20000 in
theorem gX4_put_X3_addBlock : GoodIn wsX4_put (wsV RX4 76 RX3 yX3_addBlock wsX3_addBlock) := goodIn_app (goodIn_of _ (by decide +kernel)) ggX4_put_X3_addBlock
theorem dX4_put_0 : decode cX4_put 0 = .ok (.aload_n 0, 1) := by decide +kernel
theorem dX4_put_1 : decode cX4_put 1 = .ok (.iload_n 1, 1) := by decide +kernel
theorem dX4_put_2 : decode cX4_put 2 = .ok (.iload_n 2, 1) := by decide +kernel
theorem dX4_put_3 : decode cX4_put 3 = .ok (.invokevirtual 61, 3) := by decide +kernel
theorem dX4_put_6 : decode cX4_put 6 = .ok (.iload_n 3, 1) := by decide +kernel
theorem dX4_put_7 : decode cX4_put 7 = .ok (.iconst 0, 1) := by decide +kernel
theorem dX4_put_8 : decode cX4_put 8 = .ok (.iconst 3, 1) := by decide +kernel
theorem dX4_put_9 : decode cX4_put 9 = .ok (.invokestatic 50, 3) := by decide +kernel
theorem dX4_put_12 : decode cX4_put 12 = .ok (.aload_n 0, 1) := by decide +kernel
theorem dX4_put_13 : decode cX4_put 13 = .ok (.getfield 12, 3) := by decide +kernel
theorem dX4_put_16 : decode cX4_put 16 = .ok (.iload_n 1, 1) := by decide +kernel
theorem dX4_put_17 : decode cX4_put 17 = .ok (.iload_n 2, 1) := by decide +kernel
theorem dX4_put_18 : decode cX4_put 18 = .ok (.invokevirtual 65, 3) := by decide +kernel
theorem dX4_put_21 : decode cX4_put 21 = .ok (.bipush 8, 2) := by decide +kernel
theorem dX4_put_23 : decode cX4_put 23 = .ok (.if_icmp .lt 13, 3) := by decide +kernel
theorem dX4_put_26 : decode cX4_put 26 = .ok (.new 69, 3) := by decide +kernel
theorem dX4_put_29 : decode cX4_put 29 = .ok (.dup, 1) := by decide +kernel
theorem dX4_put_30 : decode cX4_put 30 = .ok (.ldc 71, 2) := by decide +kernel
theorem dX4_put_32 : decode cX4_put 32 = .ok (.invokespecial 73, 3) := by decide +kernel
theorem dX4_put_35 : decode cX4_put 35 = .ok (.athrow, 1) := by decide +kernel
theorem dX4_put_36 : decode cX4_put 36 = .ok (.aload_n 0, 1) := by decide +kernel
theorem dX4_put_37 : decode cX4_put 37 = .ok (.invokevirtual 54, 3) := by decide +kernel
theorem dX4_put_40 : decode cX4_put 40 = .ok (.aload_n 0, 1) := by decide +kernel
theorem dX4_put_41 : decode cX4_put 41 = .ok (.getfield 12, 3) := by decide +kernel
theorem dX4_put_44 : decode cX4_put 44 = .ok (.iload_n 1, 1) := by decide +kernel
theorem dX4_put_45 : decode cX4_put 45 = .ok (.iload_n 2, 1) := by decide +kernel
theorem dX4_put_46 : decode cX4_put 46 = .ok (.iload_n 3, 1) := by decide +kernel
theorem dX4_put_47 : decode cX4_put 47 = .ok (.invokevirtual 76, 3) := by decide +kernel
theorem dX4_put_50 : decode cX4_put 50 = .ok (.aload_n 0, 1) := by decide +kernel
theorem dX4_put_51 : decode cX4_put 51 = .ok (.getfield 12, 3) := by decide +kernel
theorem dX4_put_54 : decode cX4_put 54 = .ok (.iload_n 1, 1) := by decide +kernel
theorem dX4_put_55 : decode cX4_put 55 = .ok (.iload_n 2, 1) := by decide +kernel
theorem dX4_put_56 : decode cX4_put 56 = .ok (.invokevirtual 65, 3) := by decide +kernel
theorem dX4_put_59 : decode cX4_put 59 = .ok (.ireturn, 1) := by decide +kernel
set_option maxRecDepth 20000 in
theorem ggX4_take_X4_needSquare : GoodIn wsX4_take wsX4_needSquare := goodIn_ca (goodIn_r _ [6, 7, 8, 1, 9, 10, 11, 12, 13, 14, 15, 16, 17, 18, 75, 76, 77, 78, 79, 80, 81, 82, 83, 84, 85, 86] (by decide +kernel) (by decide +kernel)) (goodIn_sub (fun _ h => List.mem_cons_of_mem _ (List.mem_append_left _ (List.mem_append_right _ h))) (by decide +kernel))
set_option maxRecDepth 20000 in
theorem gX4_take_X4_needSquare : GoodIn wsX4_take (wsV RX4 61 RX4 yX4_needSquare wsX4_needSquare) := goodIn_app (goodIn_of _ (by decide +kernel)) ggX4_take_X4_needSquare
set_option maxRecDepth 20000 in
theorem ggX4_take_X4_needBlocks : GoodIn wsX4_take wsX4_needBlocks := goodIn_ca (goodIn_r _ [22, 23, 24, 1, 25, 26, 27, 12, 28, 29, 14, 15, 16, 17, 18, 30, 5, 31, 75, 76, 77, 78, 79, 80, 81, 82, 83, 84, 85, 86] (by decide +kernel) (by decide +kernel)) (goodIn_sub (fun _ h => List.mem_cons_of_mem _ (List.mem_append_right _ h)) (by decide +kernel))
set_option maxRecDepth 20000 in
theorem gX4_take_X4_needBlocks : GoodIn wsX4_take (wsV RX4 79 RX4 yX4_needBlocks wsX4_needBlocks) := goodIn_app (goodIn_of _ (by decide +kernel)) ggX4_take_X4_needBlocks
set_option maxRecDepth 20000 in
theorem ggX4_take_X4_saveState : GoodIn wsX4_take wsX4_saveState := goodIn_r _ [35, 36, 1, 37, 38, 39, 40, 41, 42, 43, 44, 45, 46, 47, 48, 49, 50, 51, 52, 12, 53, 18, 54, 29, 55, 30, 5, 31, 56, 57, 75, 76, 77, 78, 79, 80, 81, 82, 87, 88, 89, 83, 84, 85, 86] (by decide +kernel) (by decide +kernel)
set_option maxRecDepth 20000 in
theorem gX4_take_X4_saveState : GoodIn wsX4_take (wsV RX4 54 RX4 yX4_saveState wsX4_saveState) := goodIn_app (goodIn_of _ (by decide +kernel)) ggX4_take_X4_saveState
set_option maxRecDepth 20000 in
theorem ggX4_take_X3_topColour : GoodIn wsX4_take wsX3_topColour := goodIn_r _ [61, 62, 26, 27, 12, 28, 29, 14, 15, 16, 17, 18, 30, 5, 31, 63, 64, 65, 66, 55, 83, 84, 85, 86] (by decide +kernel) (by decide +kernel)
set_option maxRecDepth 20000 in
theorem gX4_take_X3_topColour : GoodIn wsX4_take (wsV RX4 82 RX3 yX3_topColour wsX3_topColour) := goodIn_app (goodIn_of _ (by decide +kernel)) ggX4_take_X3_topColour
set_option maxRecDepth 20000 in
theorem ggX4_take_X3_removeBlock : GoodIn wsX4_take wsX3_removeBlock := goodIn_r _ [70, 62, 26, 27, 12, 28, 29, 14, 15, 16, 17, 18, 30, 5, 31, 71, 72, 73, 74, 55, 56, 57, 83, 84, 85, 86] (by decide +kernel) (by decide +kernel)
set_option maxRecDepth 20000 in
theorem gX4_take_X3_removeBlock : GoodIn wsX4_take (wsV RX4 85 RX3 yX3_removeBlock wsX3_removeBlock) := goodIn_app (goodIn_of _ (by decide +kernel)) ggX4_take_X3_removeBlock
theorem dX4_take_0 : decode cX4_take 0 = .ok (.aload_n 0, 1) := by decide +kernel
theorem dX4_take_1 : decode cX4_take 1 = .ok (.iload_n 1, 1) := by decide +kernel
theorem dX4_take_2 : decode cX4_take 2 = .ok (.iload_n 2, 1) := by decide +kernel
theorem dX4_take_3 : decode cX4_take 3 = .ok (.invokevirtual 61, 3) := by decide +kernel
theorem dX4_take_6 : decode cX4_take 6 = .ok (.aload_n 0, 1) := by decide +kernel
theorem dX4_take_7 : decode cX4_take 7 = .ok (.iload_n 1, 1) := by decide +kernel
theorem dX4_take_8 : decode cX4_take 8 = .ok (.iload_n 2, 1) := by decide +kernel
theorem dX4_take_9 : decode cX4_take 9 = .ok (.invokevirtual 79, 3) := by decide +kernel
theorem dX4_take_12 : decode cX4_take 12 = .ok (.aload_n 0, 1) := by decide +kernel
theorem dX4_take_13 : decode cX4_take 13 = .ok (.invokevirtual 54, 3) := by decide +kernel
theorem dX4_take_16 : decode cX4_take 16 = .ok (.aload_n 0, 1) := by decide +kernel
theorem dX4_take_17 : decode cX4_take 17 = .ok (.getfield 12, 3) := by decide +kernel
theorem dX4_take_20 : decode cX4_take 20 = .ok (.iload_n 1, 1) := by decide +kernel
theorem dX4_take_21 : decode cX4_take 21 = .ok (.iload_n 2, 1) := by decide +kernel
theorem dX4_take_22 : decode cX4_take 22 = .ok (.invokevirtual 82, 3) := by decide +kernel
theorem dX4_take_25 : decode cX4_take 25 = .ok (.istore_n 3, 1) := by decide +kernel
theorem dX4_take_26 : decode cX4_take 26 = .ok (.aload_n 0, 1) := by decide +kernel
theorem dX4_take_27 : decode cX4_take 27 = .ok (.getfield 12, 3) := by decide +kernel
theorem dX4_take_30 : decode cX4_take 30 = .ok (.iload_n 1, 1) := by decide +kernel
theorem dX4_take_31 : decode cX4_take 31 = .ok (.iload_n 2, 1) := by decide +kernel
theorem dX4_take_32 : decode cX4_take 32 = .ok (.invokevirtual 85, 3) := by decide +kernel
theorem dX4_take_35 : decode cX4_take 35 = .ok (.iload_n 3, 1) := by decide +kernel
theorem dX4_take_36 : decode cX4_take 36 = .ok (.ireturn, 1) := by decide +kernel
set_option maxRecDepth 20000 in
theorem ggX4_carry_X4_needSquare : GoodIn wsX4_carry wsX4_needSquare := goodIn_ca (goodIn_r _ [8, 9, 10, 3, 11, 12, 13, 14, 15, 16, 17, 18, 19, 20, 67, 68, 69, 70, 71, 72, 73, 74, 75, 76, 77, 78] (by decide +kernel) (by decide +kernel)) (goodIn_sub (fun _ h => List.mem_cons_of_mem _ (List.mem_append_right _ h)) (by decide +kernel))
set_option maxRecDepth 20000 in
theorem gX4_carry_X4_needSquare : GoodIn wsX4_carry (wsV RX4 61 RX4 yX4_needSquare wsX4_needSquare) := goodIn_app (goodIn_of _ (by decide +kernel)) ggX4_carry_X4_needSquare
set_option maxRecDepth 20000 in
theorem ggX4_carry_X3_heightAt : GoodIn wsX4_carry wsX3_heightAt := goodIn_r _ [24, 25, 16, 17, 18, 14, 19, 20, 26, 7, 27, 75, 76, 77, 78] (by decide +kernel) (by decide +kernel)
set_option maxRecDepth 20000 in
theorem gX4_carry_X3_heightAt : GoodIn wsX4_carry (wsV RX4 65 RX3 yX3_heightAt wsX3_heightAt) := goodIn_app (goodIn_of _ (by decide +kernel)) ggX4_carry_X3_heightAt
set_option maxRecDepth 20000 in
theorem ggX4_carry_X4_saveState : GoodIn wsX4_carry wsX4_saveState := goodIn_r _ [31, 32, 3, 33, 34, 35, 36, 37, 38, 39, 40, 41, 42, 43, 44, 45, 46, 47, 48, 14, 49, 20, 50, 25, 51, 26, 7, 27, 52, 53, 67, 68, 69, 70, 71, 72, 73, 74, 79, 80, 81, 75, 76, 77, 78] (by decide +kernel) (by decide +kernel)
set_option maxRecDepth 20000 in
theorem gX4_carry_X4_saveState : GoodIn wsX4_carry (wsV RX4 54 RX4 yX4_saveState wsX4_saveState) := goodIn_app (goodIn_of _ (by decide +kernel)) ggX4_carry_X4_saveState
set_option maxRecDepth 20000 in
theorem ggX4_carry_X3_colourAt : GoodIn wsX4_carry wsX3_colourAt := goodIn_r _ [57, 51, 58, 22, 23, 14, 24, 25, 16, 17, 18, 19, 20, 26, 7, 27, 75, 76, 77, 78] (by decide +kernel) (by decide +kernel)
set_option maxRecDepth 20000 in
theorem gX4_carry_X3_colourAt : GoodIn wsX4_carry (wsV RX4 92 RX3 yX3_colourAt wsX3_colourAt) := goodIn_app (goodIn_of _ (by decide +kernel)) ggX4_carry_X3_colourAt
set_option maxRecDepth 20000 in
theorem ggX4_carry_X3_addBlock : GoodIn wsX4_carry wsX3_addBlock := goodIn_r _ [62, 25, 51, 16, 17, 18, 14, 19, 20, 26, 7, 27, 52, 53, 75, 76, 77, 78] (by decide +kernel) (by decide +kernel)
set_option maxRecDepth 20000 in
theorem gX4_carry_X3_addBlock : GoodIn wsX4_carry (wsV RX4 76 RX3 yX3_addBlock wsX3_addBlock) := goodIn_app (goodIn_of _ (by decide +kernel)) ggX4_carry_X3_addBlock
set_option maxRecDepth 20000 in
theorem ggX4_carry_X3_lowerTo : GoodIn wsX4_carry wsX3_lowerTo := goodIn_r _ [66, 25, 51, 16, 17, 18, 14, 19, 20, 26, 7, 27, 52, 53, 75, 76, 77, 78] (by decide +kernel) (by decide +kernel)
set_option maxRecDepth 20000 in
theorem gX4_carry_X3_lowerTo : GoodIn wsX4_carry (wsV RX4 96 RX3 yX3_lowerTo wsX3_lowerTo) := goodIn_app (goodIn_of _ (by decide +kernel)) ggX4_carry_X3_lowerTo
theorem dX4_carry_0 : decode cX4_carry 0 = .ok (.aload_n 0, 1) := by decide +kernel
theorem dX4_carry_1 : decode cX4_carry 1 = .ok (.iload_n 1, 1) := by decide +kernel
theorem dX4_carry_2 : decode cX4_carry 2 = .ok (.iload_n 2, 1) := by decide +kernel
theorem dX4_carry_3 : decode cX4_carry 3 = .ok (.invokevirtual 61, 3) := by decide +kernel
theorem dX4_carry_6 : decode cX4_carry 6 = .ok (.aload_n 0, 1) := by decide +kernel
theorem dX4_carry_7 : decode cX4_carry 7 = .ok (.iload_n 3, 1) := by decide +kernel
theorem dX4_carry_8 : decode cX4_carry 8 = .ok (.iload 4, 2) := by decide +kernel
theorem dX4_carry_10 : decode cX4_carry 10 = .ok (.invokevirtual 61, 3) := by decide +kernel
theorem dX4_carry_13 : decode cX4_carry 13 = .ok (.iload_n 1, 1) := by decide +kernel
theorem dX4_carry_14 : decode cX4_carry 14 = .ok (.iload_n 3, 1) := by decide +kernel
theorem dX4_carry_15 : decode cX4_carry 15 = .ok (.if_icmp .ne 19, 3) := by decide +kernel
theorem dX4_carry_18 : decode cX4_carry 18 = .ok (.iload_n 2, 1) := by decide +kernel
theorem dX4_carry_19 : decode cX4_carry 19 = .ok (.iload 4, 2) := by decide +kernel
theorem dX4_carry_21 : decode cX4_carry 21 = .ok (.if_icmp .ne 13, 3) := by decide +kernel
theorem dX4_carry_24 : decode cX4_carry 24 = .ok (.new 69, 3) := by decide +kernel
theorem dX4_carry_27 : decode cX4_carry 27 = .ok (.dup, 1) := by decide +kernel
theorem dX4_carry_28 : decode cX4_carry 28 = .ok (.ldc 88, 2) := by decide +kernel
theorem dX4_carry_30 : decode cX4_carry 30 = .ok (.invokespecial 73, 3) := by decide +kernel
theorem dX4_carry_33 : decode cX4_carry 33 = .ok (.athrow, 1) := by decide +kernel
theorem dX4_carry_34 : decode cX4_carry 34 = .ok (.aload_n 0, 1) := by decide +kernel
theorem dX4_carry_35 : decode cX4_carry 35 = .ok (.getfield 12, 3) := by decide +kernel
theorem dX4_carry_38 : decode cX4_carry 38 = .ok (.iload_n 1, 1) := by decide +kernel
theorem dX4_carry_39 : decode cX4_carry 39 = .ok (.iload_n 2, 1) := by decide +kernel
theorem dX4_carry_40 : decode cX4_carry 40 = .ok (.invokevirtual 65, 3) := by decide +kernel
theorem dX4_carry_43 : decode cX4_carry 43 = .ok (.aload_n 0, 1) := by decide +kernel
theorem dX4_carry_44 : decode cX4_carry 44 = .ok (.getfield 12, 3) := by decide +kernel
theorem dX4_carry_47 : decode cX4_carry 47 = .ok (.iload_n 3, 1) := by decide +kernel
theorem dX4_carry_48 : decode cX4_carry 48 = .ok (.iload 4, 2) := by decide +kernel
theorem dX4_carry_50 : decode cX4_carry 50 = .ok (.invokevirtual 65, 3) := by decide +kernel
theorem dX4_carry_53 : decode cX4_carry 53 = .ok (.iadd, 1) := by decide +kernel
theorem dX4_carry_54 : decode cX4_carry 54 = .ok (.bipush 8, 2) := by decide +kernel
theorem dX4_carry_56 : decode cX4_carry 56 = .ok (.if_icmp .le 13, 3) := by decide +kernel
theorem dX4_carry_59 : decode cX4_carry 59 = .ok (.new 69, 3) := by decide +kernel
theorem dX4_carry_62 : decode cX4_carry 62 = .ok (.dup, 1) := by decide +kernel
theorem dX4_carry_63 : decode cX4_carry 63 = .ok (.ldc 90, 2) := by decide +kernel
theorem dX4_carry_65 : decode cX4_carry 65 = .ok (.invokespecial 73, 3) := by decide +kernel
theorem dX4_carry_68 : decode cX4_carry 68 = .ok (.athrow, 1) := by decide +kernel
theorem dX4_carry_69 : decode cX4_carry 69 = .ok (.aload_n 0, 1) := by decide +kernel
theorem dX4_carry_70 : decode cX4_carry 70 = .ok (.invokevirtual 54, 3) := by decide +kernel
theorem dX4_carry_73 : decode cX4_carry 73 = .ok (.aload_n 0, 1) := by decide +kernel
theorem dX4_carry_74 : decode cX4_carry 74 = .ok (.getfield 12, 3) := by decide +kernel
theorem dX4_carry_77 : decode cX4_carry 77 = .ok (.iload_n 1, 1) := by decide +kernel
theorem dX4_carry_78 : decode cX4_carry 78 = .ok (.iload_n 2, 1) := by decide +kernel
theorem dX4_carry_79 : decode cX4_carry 79 = .ok (.invokevirtual 65, 3) := by decide +kernel
theorem dX4_carry_82 : decode cX4_carry 82 = .ok (.istore 5, 2) := by decide +kernel
theorem dX4_carry_84 : decode cX4_carry 84 = .ok (.iconst 0, 1) := by decide +kernel
theorem dX4_carry_85 : decode cX4_carry 85 = .ok (.istore 6, 2) := by decide +kernel
theorem dX4_carry_87 : decode cX4_carry 87 = .ok (.iload 6, 2) := by decide +kernel
theorem dX4_carry_89 : decode cX4_carry 89 = .ok (.iload 5, 2) := by decide +kernel
theorem dX4_carry_91 : decode cX4_carry 91 = .ok (.if_icmp .ge 30, 3) := by decide +kernel
theorem dX4_carry_94 : decode cX4_carry 94 = .ok (.aload_n 0, 1) := by decide +kernel
theorem dX4_carry_95 : decode cX4_carry 95 = .ok (.getfield 12, 3) := by decide +kernel
theorem dX4_carry_98 : decode cX4_carry 98 = .ok (.iload_n 3, 1) := by decide +kernel
theorem dX4_carry_99 : decode cX4_carry 99 = .ok (.iload 4, 2) := by decide +kernel
theorem dX4_carry_101 : decode cX4_carry 101 = .ok (.aload_n 0, 1) := by decide +kernel
theorem dX4_carry_102 : decode cX4_carry 102 = .ok (.getfield 12, 3) := by decide +kernel
theorem dX4_carry_105 : decode cX4_carry 105 = .ok (.iload_n 1, 1) := by decide +kernel
theorem dX4_carry_106 : decode cX4_carry 106 = .ok (.iload_n 2, 1) := by decide +kernel
theorem dX4_carry_107 : decode cX4_carry 107 = .ok (.iload 6, 2) := by decide +kernel
theorem dX4_carry_109 : decode cX4_carry 109 = .ok (.invokevirtual 92, 3) := by decide +kernel
theorem dX4_carry_112 : decode cX4_carry 112 = .ok (.invokevirtual 76, 3) := by decide +kernel
theorem dX4_carry_115 : decode cX4_carry 115 = .ok (.iinc 6 1, 3) := by decide +kernel
theorem dX4_carry_118 : decode cX4_carry 118 = .ok (.goto (-31), 3) := by decide +kernel
theorem dX4_carry_121 : decode cX4_carry 121 = .ok (.aload_n 0, 1) := by decide +kernel
theorem dX4_carry_122 : decode cX4_carry 122 = .ok (.getfield 12, 3) := by decide +kernel
theorem dX4_carry_125 : decode cX4_carry 125 = .ok (.iload_n 1, 1) := by decide +kernel
theorem dX4_carry_126 : decode cX4_carry 126 = .ok (.iload_n 2, 1) := by decide +kernel
theorem dX4_carry_127 : decode cX4_carry 127 = .ok (.iconst 0, 1) := by decide +kernel
theorem dX4_carry_128 : decode cX4_carry 128 = .ok (.invokevirtual 96, 3) := by decide +kernel
theorem dX4_carry_131 : decode cX4_carry 131 = .ok (.aload_n 0, 1) := by decide +kernel
theorem dX4_carry_132 : decode cX4_carry 132 = .ok (.getfield 12, 3) := by decide +kernel
theorem dX4_carry_135 : decode cX4_carry 135 = .ok (.iload_n 3, 1) := by decide +kernel
theorem dX4_carry_136 : decode cX4_carry 136 = .ok (.iload 4, 2) := by decide +kernel
theorem dX4_carry_138 : decode cX4_carry 138 = .ok (.invokevirtual 65, 3) := by decide +kernel
theorem dX4_carry_141 : decode cX4_carry 141 = .ok (.ireturn, 1) := by decide +kernel
set_option maxRecDepth 20000 in
theorem ggX4_paint_X4_needSquare : GoodIn wsX4_paint wsX4_needSquare := goodIn_ca (goodIn_r _ [6, 7, 8, 1, 9, 10, 11, 12, 13, 14, 15, 16, 17, 18, 84, 85, 86, 87, 88, 89, 90, 91, 92, 93, 94, 95] (by decide +kernel) (by decide +kernel)) (goodIn_sub (fun _ h => List.mem_cons_of_mem _ (List.mem_append_left _ (List.mem_append_left _ (List.mem_append_right _ h)))) (by decide +kernel))
set_option maxRecDepth 20000 in
theorem gX4_paint_X4_needSquare : GoodIn wsX4_paint (wsV RX4 61 RX4 yX4_needSquare wsX4_needSquare) := goodIn_app (goodIn_of _ (by decide +kernel)) ggX4_paint_X4_needSquare
set_option maxRecDepth 20000 in
theorem ggX4_paint_X4_needRange : GoodIn wsX4_paint wsX4_needRange := goodIn_ca (goodIn_r _ [21, 22, 23] (by decide +kernel) (by decide +kernel)) (goodIn_sub (fun _ h => List.mem_cons_of_mem _ (List.mem_append_left _ (List.mem_append_right _ h))) (by decide +kernel))
set_option maxRecDepth 20000 in
theorem gX4_paint_X4_needRange : GoodIn wsX4_paint (va_wsS RX4 50 yX4_needRange wsX4_needRange) := goodIn_app (goodIn_of _ (by decide +kernel)) ggX4_paint_X4_needRange
set_option maxRecDepth 20000 in
theorem ggX4_paint_X4_needBlocks : GoodIn wsX4_paint wsX4_needBlocks := goodIn_ca (goodIn_r _ [27, 28, 29, 1, 30, 31, 32, 12, 33, 34, 14, 15, 16, 17, 18, 35, 5, 36, 84, 85, 86, 87, 88, 89, 90, 91, 92, 93, 94, 95] (by decide +kernel) (by decide +kernel)) (goodIn_sub (fun _ h => List.mem_cons_of_mem _ (List.mem_append_right _ h)) (by decide +kernel))
set_option maxRecDepth 20000 in
theorem gX4_paint_X4_needBlocks : GoodIn wsX4_paint (wsV RX4 79 RX4 yX4_needBlocks wsX4_needBlocks) := goodIn_app (goodIn_of _ (by decide +kernel)) ggX4_paint_X4_needBlocks
set_option maxRecDepth 20000 in
theorem ggX4_paint_X4_saveState : GoodIn wsX4_paint wsX4_saveState := goodIn_r _ [40, 41, 1, 42, 43, 44, 45, 46, 47, 48, 49, 50, 51, 52, 53, 54, 55, 56, 57, 12, 58, 18, 59, 34, 60, 35, 5, 36, 61, 62, 84, 85, 86, 87, 88, 89, 90, 91, 96, 97, 98, 92, 93, 94, 95] (by decide +kernel) (by decide +kernel)
set_option maxRecDepth 20000 in
theorem gX4_paint_X4_saveState : GoodIn wsX4_paint (wsV RX4 54 RX4 yX4_saveState wsX4_saveState) := goodIn_app (goodIn_of _ (by decide +kernel)) ggX4_paint_X4_saveState
set_option maxRecDepth 20000 in
theorem ggX4_paint_X3_topColour : GoodIn wsX4_paint wsX3_topColour := goodIn_r _ [66, 67, 31, 32, 12, 33, 34, 14, 15, 16, 17, 18, 35, 5, 36, 68, 69, 70, 71, 60, 92, 93, 94, 95] (by decide +kernel) (by decide +kernel)
set_option maxRecDepth 20000 in
theorem gX4_paint_X3_topColour : GoodIn wsX4_paint (wsV RX4 82 RX3 yX3_topColour wsX3_topColour) := goodIn_app (goodIn_of _ (by decide +kernel)) ggX4_paint_X3_topColour
set_option maxRecDepth 20000 in
theorem ggX4_paint_X3_removeBlock : GoodIn wsX4_paint wsX3_removeBlock := goodIn_r _ [75, 67, 31, 32, 12, 33, 34, 14, 15, 16, 17, 18, 35, 5, 36, 76, 77, 78, 79, 60, 61, 62, 92, 93, 94, 95] (by decide +kernel) (by decide +kernel)
set_option maxRecDepth 20000 in
theorem gX4_paint_X3_removeBlock : GoodIn wsX4_paint (wsV RX4 85 RX3 yX3_removeBlock wsX3_removeBlock) := goodIn_app (goodIn_of _ (by decide +kernel)) ggX4_paint_X3_removeBlock
set_option maxRecDepth 20000 in
theorem ggX4_paint_X3_addBlock : GoodIn wsX4_paint wsX3_addBlock := goodIn_r _ [83, 34, 60, 14, 15, 16, 12, 17, 18, 35, 5, 36, 61, 62, 92, 93, 94, 95] (by decide +kernel) (by decide +kernel)
set_option maxRecDepth 20000 in
theorem gX4_paint_X3_addBlock : GoodIn wsX4_paint (wsV RX4 76 RX3 yX3_addBlock wsX3_addBlock) := goodIn_app (goodIn_of _ (by decide +kernel)) ggX4_paint_X3_addBlock
theorem dX4_paint_0 : decode cX4_paint 0 = .ok (.aload_n 0, 1) := by decide +kernel
theorem dX4_paint_1 : decode cX4_paint 1 = .ok (.iload_n 1, 1) := by decide +kernel
theorem dX4_paint_2 : decode cX4_paint 2 = .ok (.iload_n 2, 1) := by decide +kernel
theorem dX4_paint_3 : decode cX4_paint 3 = .ok (.invokevirtual 61, 3) := by decide +kernel
theorem dX4_paint_6 : decode cX4_paint 6 = .ok (.iload_n 3, 1) := by decide +kernel
theorem dX4_paint_7 : decode cX4_paint 7 = .ok (.iconst 0, 1) := by decide +kernel
theorem dX4_paint_8 : decode cX4_paint 8 = .ok (.iconst 3, 1) := by decide +kernel
theorem dX4_paint_9 : decode cX4_paint 9 = .ok (.invokestatic 50, 3) := by decide +kernel
theorem dX4_paint_12 : decode cX4_paint 12 = .ok (.aload_n 0, 1) := by decide +kernel
theorem dX4_paint_13 : decode cX4_paint 13 = .ok (.iload_n 1, 1) := by decide +kernel
theorem dX4_paint_14 : decode cX4_paint 14 = .ok (.iload_n 2, 1) := by decide +kernel
theorem dX4_paint_15 : decode cX4_paint 15 = .ok (.invokevirtual 79, 3) := by decide +kernel
theorem dX4_paint_18 : decode cX4_paint 18 = .ok (.aload_n 0, 1) := by decide +kernel
theorem dX4_paint_19 : decode cX4_paint 19 = .ok (.invokevirtual 54, 3) := by decide +kernel
theorem dX4_paint_22 : decode cX4_paint 22 = .ok (.aload_n 0, 1) := by decide +kernel
theorem dX4_paint_23 : decode cX4_paint 23 = .ok (.getfield 12, 3) := by decide +kernel
theorem dX4_paint_26 : decode cX4_paint 26 = .ok (.iload_n 1, 1) := by decide +kernel
theorem dX4_paint_27 : decode cX4_paint 27 = .ok (.iload_n 2, 1) := by decide +kernel
theorem dX4_paint_28 : decode cX4_paint 28 = .ok (.invokevirtual 82, 3) := by decide +kernel
theorem dX4_paint_31 : decode cX4_paint 31 = .ok (.istore 4, 2) := by decide +kernel
theorem dX4_paint_33 : decode cX4_paint 33 = .ok (.aload_n 0, 1) := by decide +kernel
theorem dX4_paint_34 : decode cX4_paint 34 = .ok (.getfield 12, 3) := by decide +kernel
theorem dX4_paint_37 : decode cX4_paint 37 = .ok (.iload_n 1, 1) := by decide +kernel
theorem dX4_paint_38 : decode cX4_paint 38 = .ok (.iload_n 2, 1) := by decide +kernel
theorem dX4_paint_39 : decode cX4_paint 39 = .ok (.invokevirtual 85, 3) := by decide +kernel
theorem dX4_paint_42 : decode cX4_paint 42 = .ok (.aload_n 0, 1) := by decide +kernel
theorem dX4_paint_43 : decode cX4_paint 43 = .ok (.getfield 12, 3) := by decide +kernel
theorem dX4_paint_46 : decode cX4_paint 46 = .ok (.iload_n 1, 1) := by decide +kernel
theorem dX4_paint_47 : decode cX4_paint 47 = .ok (.iload_n 2, 1) := by decide +kernel
theorem dX4_paint_48 : decode cX4_paint 48 = .ok (.iload_n 3, 1) := by decide +kernel
theorem dX4_paint_49 : decode cX4_paint 49 = .ok (.invokevirtual 76, 3) := by decide +kernel
theorem dX4_paint_52 : decode cX4_paint 52 = .ok (.iload 4, 2) := by decide +kernel
theorem dX4_paint_54 : decode cX4_paint 54 = .ok (.ireturn, 1) := by decide +kernel
set_option maxRecDepth 20000 in
theorem ggX4_turn_X4_saveState : GoodIn wsX4_turn wsX4_saveState := goodIn_r _ [7, 8, 2, 9, 10, 11, 12, 13, 14, 15, 16, 17, 18, 19, 20, 21, 22, 23, 24, 25, 26, 27, 28, 29, 30, 31, 6, 32, 33, 34, 113, 114, 115, 116, 117, 118, 119, 120, 127, 128, 129, 130, 131, 132, 133] (by decide +kernel) (by decide +kernel)
set_option maxRecDepth 20000 in
theorem gX4_turn_X4_saveState : GoodIn wsX4_turn (wsV RX4 54 RX4 yX4_saveState wsX4_saveState) := goodIn_app (goodIn_of _ (by decide +kernel)) ggX4_turn_X4_saveState
set_option maxRecDepth 20000 in
theorem ggX4_turn_X3_becomeTurned : GoodIn wsX4_turn wsX3_becomeTurned := goodIn_r _ [38, 27, 28, 29, 30, 39, 40, 41, 25, 42, 43, 44, 45, 46, 47, 48, 49, 50, 31, 6, 32, 33, 34, 130, 131, 132, 133] (by decide +kernel) (by decide +kernel)
set_option maxRecDepth 20000 in
theorem gX4_turn_X3_becomeTurned : GoodIn wsX4_turn (wsV RX4 99 RX3 yX3_becomeTurned wsX3_becomeTurned) := goodIn_app (goodIn_of _ (by decide +kernel)) ggX4_turn_X3_becomeTurned
set_option maxRecDepth 20000 in
theorem ggX4_turn_X3_become : GoodIn wsX4_turn wsX3_become := goodIn_r _ [26, 27, 28, 29, 30, 31, 6, 32, 33, 34, 130, 131, 132, 133] (by decide +kernel) (by decide +kernel)
set_option maxRecDepth 20000 in
theorem gX4_turn_X3_become : GoodIn wsX4_turn (wsV RX4 103 RX3 yX3_become wsX3_become) := goodIn_app (goodIn_of _ (by decide +kernel)) ggX4_turn_X3_become
set_option maxRecDepth 20000 in
theorem ggX4_turn_X4_drawnView : GoodIn wsX4_turn wsX4_drawnView := goodIn_r _ [55, 9, 56, 2, 57, 58, 59, 60, 61, 62, 63, 64, 44, 45, 46, 65, 66, 67, 25, 68, 29, 47, 48, 49, 50, 27, 31, 6, 32, 69, 70, 71, 72, 73, 74, 75, 76, 77, 78, 79, 80, 81, 82, 83, 84, 85, 33, 34, 86, 87, 88, 89, 90, 91, 92, 93, 94, 95, 96, 97, 98, 99, 100, 101, 102, 103, 104, 105, 106, 107, 108, 109, 110, 111, 112, 113, 114, 115, 116, 117, 118, 119, 120, 121, 122, 123, 124, 125, 126, 130, 131, 132, 133] (by decide +kernel) (by decide +kernel)
set_option maxRecDepth 20000 in
theorem gX4_turn_X4_drawnView : GoodIn wsX4_turn (wsV RX4 106 RX4 yX4_drawnView wsX4_drawnView) := goodIn_app (goodIn_of _ (by decide +kernel)) ggX4_turn_X4_drawnView
theorem dX4_turn_0 : decode cX4_turn 0 = .ok (.aload_n 0, 1) := by decide +kernel
theorem dX4_turn_1 : decode cX4_turn 1 = .ok (.invokevirtual 54, 3) := by decide +kernel
theorem dX4_turn_4 : decode cX4_turn 4 = .ok (.aload_n 0, 1) := by decide +kernel
theorem dX4_turn_5 : decode cX4_turn 5 = .ok (.getfield 40, 3) := by decide +kernel
theorem dX4_turn_8 : decode cX4_turn 8 = .ok (.aload_n 0, 1) := by decide +kernel
theorem dX4_turn_9 : decode cX4_turn 9 = .ok (.getfield 12, 3) := by decide +kernel
theorem dX4_turn_12 : decode cX4_turn 12 = .ok (.invokevirtual 99, 3) := by decide +kernel
theorem dX4_turn_15 : decode cX4_turn 15 = .ok (.aload_n 0, 1) := by decide +kernel
theorem dX4_turn_16 : decode cX4_turn 16 = .ok (.getfield 12, 3) := by decide +kernel
theorem dX4_turn_19 : decode cX4_turn 19 = .ok (.aload_n 0, 1) := by decide +kernel
theorem dX4_turn_20 : decode cX4_turn 20 = .ok (.getfield 40, 3) := by decide +kernel
theorem dX4_turn_23 : decode cX4_turn 23 = .ok (.invokevirtual 103, 3) := by decide +kernel
theorem dX4_turn_26 : decode cX4_turn 26 = .ok (.aload_n 0, 1) := by decide +kernel
theorem dX4_turn_27 : decode cX4_turn 27 = .ok (.invokevirtual 106, 3) := by decide +kernel
theorem dX4_turn_30 : decode cX4_turn 30 = .ok (.getfield 110, 3) := by decide +kernel
theorem dX4_turn_33 : decode cX4_turn 33 = .ok (.ireturn, 1) := by decide +kernel
set_option maxRecDepth 20000 in
theorem ggX4_cutOff_X4_needRange : GoodIn wsX4_cutOff wsX4_needRange := goodIn_ca (goodIn_r _ [5, 6, 7] (by decide +kernel) (by decide +kernel)) (goodIn_sub (fun _ h => List.mem_cons_of_mem _ (List.mem_append_right _ h)) (by decide +kernel))
set_option maxRecDepth 20000 in
theorem gX4_cutOff_X4_needRange : GoodIn wsX4_cutOff (va_wsS RX4 50 yX4_needRange wsX4_needRange) := goodIn_app (goodIn_of _ (by decide +kernel)) ggX4_cutOff_X4_needRange
set_option maxRecDepth 20000 in
theorem ggX4_cutOff_X4_saveState : GoodIn wsX4_cutOff wsX4_saveState := goodIn_r _ [11, 12, 1, 13, 14, 15, 16, 17, 18, 19, 20, 21, 22, 23, 24, 25, 26, 27, 28, 29, 30, 31, 32, 33, 34, 35, 4, 36, 37, 38, 63, 64, 65, 66, 67, 68, 69, 70, 75, 76, 77, 71, 72, 73, 74] (by decide +kernel) (by decide +kernel)
set_option maxRecDepth 20000 in
theorem gX4_cutOff_X4_saveState : GoodIn wsX4_cutOff (wsV RX4 54 RX4 yX4_saveState wsX4_saveState) := goodIn_app (goodIn_of _ (by decide +kernel)) ggX4_cutOff_X4_saveState
set_option maxRecDepth 20000 in
theorem ggX4_cutOff_X3_blockCount : GoodIn wsX4_cutOff wsX3_blockCount := goodIn_r _ [42, 31, 43, 44, 45, 29, 46, 47, 48, 49, 50, 51, 52, 53, 54, 33, 55, 56, 57, 58, 35, 4, 36, 71, 72, 73, 74] (by decide +kernel) (by decide +kernel)
set_option maxRecDepth 20000 in
theorem gX4_cutOff_X3_blockCount : GoodIn wsX4_cutOff (wsV RX4 114 RX3 yX3_blockCount wsX3_blockCount) := goodIn_app (goodIn_of _ (by decide +kernel)) ggX4_cutOff_X3_blockCount
set_option maxRecDepth 20000 in
theorem ggX4_cutOff_X3_lowerTo : GoodIn wsX4_cutOff wsX3_lowerTo := goodIn_r _ [62, 33, 34, 55, 56, 57, 29, 58, 31, 35, 4, 36, 37, 38, 71, 72, 73, 74] (by decide +kernel) (by decide +kernel)
set_option maxRecDepth 20000 in
theorem gX4_cutOff_X3_lowerTo : GoodIn wsX4_cutOff (wsV RX4 96 RX3 yX3_lowerTo wsX3_lowerTo) := goodIn_app (goodIn_of _ (by decide +kernel)) ggX4_cutOff_X3_lowerTo
theorem dX4_cutOff_0 : decode cX4_cutOff 0 = .ok (.iload_n 1, 1) := by decide +kernel
theorem dX4_cutOff_1 : decode cX4_cutOff 1 = .ok (.iconst 0, 1) := by decide +kernel
theorem dX4_cutOff_2 : decode cX4_cutOff 2 = .ok (.bipush 8, 2) := by decide +kernel
theorem dX4_cutOff_4 : decode cX4_cutOff 4 = .ok (.invokestatic 50, 3) := by decide +kernel
theorem dX4_cutOff_7 : decode cX4_cutOff 7 = .ok (.aload_n 0, 1) := by decide +kernel
theorem dX4_cutOff_8 : decode cX4_cutOff 8 = .ok (.invokevirtual 54, 3) := by decide +kernel
theorem dX4_cutOff_11 : decode cX4_cutOff 11 = .ok (.aload_n 0, 1) := by decide +kernel
theorem dX4_cutOff_12 : decode cX4_cutOff 12 = .ok (.getfield 12, 3) := by decide +kernel
theorem dX4_cutOff_15 : decode cX4_cutOff 15 = .ok (.invokevirtual 114, 3) := by decide +kernel
theorem dX4_cutOff_18 : decode cX4_cutOff 18 = .ok (.istore_n 2, 1) := by decide +kernel
theorem dX4_cutOff_19 : decode cX4_cutOff 19 = .ok (.iconst 0, 1) := by decide +kernel
theorem dX4_cutOff_20 : decode cX4_cutOff 20 = .ok (.istore_n 3, 1) := by decide +kernel
theorem dX4_cutOff_21 : decode cX4_cutOff 21 = .ok (.iload_n 3, 1) := by decide +kernel
theorem dX4_cutOff_22 : decode cX4_cutOff 22 = .ok (.aload_n 0, 1) := by decide +kernel
theorem dX4_cutOff_23 : decode cX4_cutOff 23 = .ok (.getfield 12, 3) := by decide +kernel
theorem dX4_cutOff_26 : decode cX4_cutOff 26 = .ok (.getfield 118, 3) := by decide +kernel
theorem dX4_cutOff_29 : decode cX4_cutOff 29 = .ok (.if_icmp .ge 41, 3) := by decide +kernel
theorem dX4_cutOff_32 : decode cX4_cutOff 32 = .ok (.iconst 0, 1) := by decide +kernel
theorem dX4_cutOff_33 : decode cX4_cutOff 33 = .ok (.istore 4, 2) := by decide +kernel
theorem dX4_cutOff_35 : decode cX4_cutOff 35 = .ok (.iload 4, 2) := by decide +kernel
theorem dX4_cutOff_37 : decode cX4_cutOff 37 = .ok (.aload_n 0, 1) := by decide +kernel
theorem dX4_cutOff_38 : decode cX4_cutOff 38 = .ok (.getfield 12, 3) := by decide +kernel
theorem dX4_cutOff_41 : decode cX4_cutOff 41 = .ok (.getfield 118, 3) := by decide +kernel
theorem dX4_cutOff_44 : decode cX4_cutOff 44 = .ok (.if_icmp .ge 20, 3) := by decide +kernel
theorem dX4_cutOff_47 : decode cX4_cutOff 47 = .ok (.aload_n 0, 1) := by decide +kernel
theorem dX4_cutOff_48 : decode cX4_cutOff 48 = .ok (.getfield 12, 3) := by decide +kernel
theorem dX4_cutOff_51 : decode cX4_cutOff 51 = .ok (.iload 4, 2) := by decide +kernel
theorem dX4_cutOff_53 : decode cX4_cutOff 53 = .ok (.iload_n 3, 1) := by decide +kernel
theorem dX4_cutOff_54 : decode cX4_cutOff 54 = .ok (.iload_n 1, 1) := by decide +kernel
theorem dX4_cutOff_55 : decode cX4_cutOff 55 = .ok (.invokevirtual 96, 3) := by decide +kernel
theorem dX4_cutOff_58 : decode cX4_cutOff 58 = .ok (.iinc 4 1, 3) := by decide +kernel
theorem dX4_cutOff_61 : decode cX4_cutOff 61 = .ok (.goto (-26), 3) := by decide +kernel
theorem dX4_cutOff_64 : decode cX4_cutOff 64 = .ok (.iinc 3 1, 3) := by decide +kernel
theorem dX4_cutOff_67 : decode cX4_cutOff 67 = .ok (.goto (-46), 3) := by decide +kernel
theorem dX4_cutOff_70 : decode cX4_cutOff 70 = .ok (.iload_n 2, 1) := by decide +kernel
theorem dX4_cutOff_71 : decode cX4_cutOff 71 = .ok (.aload_n 0, 1) := by decide +kernel
theorem dX4_cutOff_72 : decode cX4_cutOff 72 = .ok (.getfield 12, 3) := by decide +kernel
theorem dX4_cutOff_75 : decode cX4_cutOff 75 = .ok (.invokevirtual 114, 3) := by decide +kernel
theorem dX4_cutOff_78 : decode cX4_cutOff 78 = .ok (.isub, 1) := by decide +kernel
theorem dX4_cutOff_79 : decode cX4_cutOff 79 = .ok (.ireturn, 1) := by decide +kernel
set_option maxRecDepth 20000 in
theorem ggX4_hour_X4_needRange : GoodIn wsX4_hour wsX4_needRange := goodIn_ca (goodIn_r _ [5, 6, 7] (by decide +kernel) (by decide +kernel)) (goodIn_sub (fun _ h => List.mem_cons_of_mem _ (List.mem_append_right _ h)) (by decide +kernel))
set_option maxRecDepth 20000 in
theorem gX4_hour_X4_needRange : GoodIn wsX4_hour (va_wsS RX4 50 yX4_needRange wsX4_needRange) := goodIn_app (goodIn_of _ (by decide +kernel)) ggX4_hour_X4_needRange
set_option maxRecDepth 20000 in
theorem ggX4_hour_X4_saveState : GoodIn wsX4_hour wsX4_saveState := goodIn_r _ [11, 12, 1, 13, 14, 15, 16, 17, 18, 19, 20, 21, 22, 23, 24, 25, 26, 27, 28, 29, 30, 31, 32, 33, 34, 35, 4, 36, 37, 38, 39, 40, 41, 42, 43, 44, 45, 46, 51, 52, 53, 47, 48, 49, 50] (by decide +kernel) (by decide +kernel)
set_option maxRecDepth 20000 in
theorem gX4_hour_X4_saveState : GoodIn wsX4_hour (wsV RX4 54 RX4 yX4_saveState wsX4_saveState) := goodIn_app (goodIn_of _ (by decide +kernel)) ggX4_hour_X4_saveState
theorem dX4_hour_0 : decode cX4_hour 0 = .ok (.iload_n 1, 1) := by decide +kernel
theorem dX4_hour_1 : decode cX4_hour 1 = .ok (.iconst 0, 1) := by decide +kernel
theorem dX4_hour_2 : decode cX4_hour 2 = .ok (.bipush 7, 2) := by decide +kernel
theorem dX4_hour_4 : decode cX4_hour 4 = .ok (.invokestatic 50, 3) := by decide +kernel
theorem dX4_hour_7 : decode cX4_hour 7 = .ok (.aload_n 0, 1) := by decide +kernel
theorem dX4_hour_8 : decode cX4_hour 8 = .ok (.invokevirtual 54, 3) := by decide +kernel
theorem dX4_hour_11 : decode cX4_hour 11 = .ok (.aload_n 0, 1) := by decide +kernel
theorem dX4_hour_12 : decode cX4_hour 12 = .ok (.getfield 12, 3) := by decide +kernel
theorem dX4_hour_15 : decode cX4_hour 15 = .ok (.getfield 121, 3) := by decide +kernel
theorem dX4_hour_18 : decode cX4_hour 18 = .ok (.istore_n 2, 1) := by decide +kernel
theorem dX4_hour_19 : decode cX4_hour 19 = .ok (.aload_n 0, 1) := by decide +kernel
theorem dX4_hour_20 : decode cX4_hour 20 = .ok (.getfield 12, 3) := by decide +kernel
theorem dX4_hour_23 : decode cX4_hour 23 = .ok (.iload_n 1, 1) := by decide +kernel
theorem dX4_hour_24 : decode cX4_hour 24 = .ok (.putfield 121, 3) := by decide +kernel
theorem dX4_hour_27 : decode cX4_hour 27 = .ok (.iload_n 2, 1) := by decide +kernel
theorem dX4_hour_28 : decode cX4_hour 28 = .ok (.ireturn, 1) := by decide +kernel
set_option maxRecDepth 20000 in
theorem ggX4_stack_X4_needSquare : GoodIn wsX4_stack wsX4_needSquare := goodIn_ca (goodIn_r _ [6, 7, 8, 1, 9, 10, 11, 12, 13, 14, 15, 16, 17, 18, 114, 115, 116, 117, 118, 119, 120, 121, 122, 123, 124, 125] (by decide +kernel) (by decide +kernel)) (goodIn_sub (fun _ h => List.mem_cons_of_mem _ (List.mem_append_left _ (List.mem_append_right _ h))) (by decide +kernel))
set_option maxRecDepth 20000 in
theorem gX4_stack_X4_needSquare : GoodIn wsX4_stack (wsV RX4 61 RX4 yX4_needSquare wsX4_needSquare) := goodIn_app (goodIn_of _ (by decide +kernel)) ggX4_stack_X4_needSquare
set_option maxRecDepth 20000 in
theorem ggX4_stack_X4_needRange : GoodIn wsX4_stack wsX4_needRange := goodIn_ca (goodIn_r _ [21, 22, 23] (by decide +kernel) (by decide +kernel)) (goodIn_sub (fun _ h => List.mem_cons_of_mem _ (List.mem_append_right _ h)) (by decide +kernel))
set_option maxRecDepth 20000 in
theorem gX4_stack_X4_needRange : GoodIn wsX4_stack (va_wsS RX4 50 yX4_needRange wsX4_needRange) := goodIn_app (goodIn_of _ (by decide +kernel)) ggX4_stack_X4_needRange
set_option maxRecDepth 20000 in
theorem ggX4_stack_X3_heightAt : GoodIn wsX4_stack wsX3_heightAt := goodIn_r _ [27, 28, 14, 15, 16, 12, 17, 18, 29, 5, 30, 122, 123, 124, 125] (by decide +kernel) (by decide +kernel)
set_option maxRecDepth 20000 in
theorem gX4_stack_X3_heightAt : GoodIn wsX4_stack (wsV RX4 65 RX3 yX3_heightAt wsX3_heightAt) := goodIn_app (goodIn_of _ (by decide +kernel)) ggX4_stack_X3_heightAt
set_option maxRecDepth 20000 in
theorem ggX4_stack_X3_topColour : GoodIn wsX4_stack wsX3_topColour := goodIn_r _ [34, 35, 25, 26, 12, 27, 28, 14, 15, 16, 17, 18, 29, 5, 30, 36, 37, 38, 39, 40, 122, 123, 124, 125] (by decide +kernel) (by decide +kernel)
set_option maxRecDepth 20000 in
theorem gX4_stack_X3_topColour : GoodIn wsX4_stack (wsV RX4 82 RX3 yX3_topColour wsX3_topColour) := goodIn_app (goodIn_of _ (by decide +kernel)) ggX4_stack_X3_topColour
set_option maxRecDepth 20000 in
theorem ggX4_stack_X3_inShadow : GoodIn wsX4_stack wsX3_inShadow := goodIn_r _ [44, 18, 29, 5, 30, 35, 25, 26, 12, 27, 28, 14, 15, 16, 17, 45, 10, 11, 13, 122, 123, 124, 125] (by decide +kernel) (by decide +kernel)
set_option maxRecDepth 20000 in
theorem gX4_stack_X3_inShadow : GoodIn wsX4_stack (wsV RX4 153 RX3 yX3_inShadow wsX3_inShadow) := goodIn_app (goodIn_of _ (by decide +kernel)) ggX4_stack_X3_inShadow
set_option maxRecDepth 20000 in
theorem ggX4_stack_X4_drawnView : GoodIn wsX4_stack wsX4_drawnView := goodIn_r _ [49, 50, 51, 1, 52, 53, 54, 55, 56, 57, 58, 59, 60, 61, 62, 63, 25, 26, 12, 27, 28, 14, 15, 16, 17, 18, 29, 5, 30, 64, 65, 66, 67, 68, 69, 70, 71, 72, 73, 74, 75, 76, 77, 78, 79, 80, 81, 82, 83, 84, 85, 86, 87, 88, 89, 90, 91, 92, 93, 94, 95, 96, 97, 98, 99, 100, 101, 102, 103, 104, 105, 106, 107, 108, 109, 114, 115, 116, 117, 118, 119, 120, 121, 126, 127, 128, 129, 130, 131, 122, 123, 124, 125] (by decide +kernel) (by decide +kernel)
set_option maxRecDepth 20000 in
theorem gX4_stack_X4_drawnView : GoodIn wsX4_stack (wsV RX4 106 RX4 yX4_drawnView wsX4_drawnView) := goodIn_app (goodIn_of _ (by decide +kernel)) ggX4_stack_X4_drawnView
set_option maxRecDepth 20000 in
theorem ggX4_stack_X2_blocksSeenIn : GoodIn wsX4_stack wsX2_blocksSeenIn := goodIn_r _ [113, 83, 5, 84, 99, 100, 101, 55, 102, 91, 85, 86, 29, 30, 126, 127, 128, 129, 130, 131] (by decide +kernel) (by decide +kernel)
set_option maxRecDepth 20000 in
theorem gX4_stack_X2_blocksSeenIn : GoodIn wsX4_stack (wsV RX4 157 RX2 yX2_blocksSeenIn wsX2_blocksSeenIn) := goodIn_app (goodIn_of _ (by decide +kernel)) ggX4_stack_X2_blocksSeenIn
theorem dX4_stack_0 : decode cX4_stack 0 = .ok (.aload_n 0, 1) := by decide +kernel
theorem dX4_stack_1 : decode cX4_stack 1 = .ok (.iload_n 1, 1) := by decide +kernel
theorem dX4_stack_2 : decode cX4_stack 2 = .ok (.iload_n 2, 1) := by decide +kernel
theorem dX4_stack_3 : decode cX4_stack 3 = .ok (.invokevirtual 61, 3) := by decide +kernel
theorem dX4_stack_6 : decode cX4_stack 6 = .ok (.iload_n 3, 1) := by decide +kernel
theorem dX4_stack_7 : decode cX4_stack 7 = .ok (.iconst 0, 1) := by decide +kernel
theorem dX4_stack_8 : decode cX4_stack 8 = .ok (.iconst 3, 1) := by decide +kernel
theorem dX4_stack_9 : decode cX4_stack 9 = .ok (.invokestatic 50, 3) := by decide +kernel
theorem dX4_stack_12 : decode cX4_stack 12 = .ok (.iload_n 3, 1) := by decide +kernel
theorem dX4_stack_13 : decode cX4_stack 13 = .ok (.tableswitch 72 0 2 #[27, 37, 47], 27) := by decide +kernel
theorem dX4_stack_40 : decode cX4_stack 40 = .ok (.aload_n 0, 1) := by decide +kernel
theorem dX4_stack_41 : decode cX4_stack 41 = .ok (.getfield 12, 3) := by decide +kernel
theorem dX4_stack_44 : decode cX4_stack 44 = .ok (.iload_n 1, 1) := by decide +kernel
theorem dX4_stack_45 : decode cX4_stack 45 = .ok (.iload_n 2, 1) := by decide +kernel
theorem dX4_stack_46 : decode cX4_stack 46 = .ok (.invokevirtual 65, 3) := by decide +kernel
theorem dX4_stack_49 : decode cX4_stack 49 = .ok (.ireturn, 1) := by decide +kernel
theorem dX4_stack_50 : decode cX4_stack 50 = .ok (.aload_n 0, 1) := by decide +kernel
theorem dX4_stack_51 : decode cX4_stack 51 = .ok (.getfield 12, 3) := by decide +kernel
theorem dX4_stack_54 : decode cX4_stack 54 = .ok (.iload_n 1, 1) := by decide +kernel
theorem dX4_stack_55 : decode cX4_stack 55 = .ok (.iload_n 2, 1) := by decide +kernel
theorem dX4_stack_56 : decode cX4_stack 56 = .ok (.invokevirtual 82, 3) := by decide +kernel
theorem dX4_stack_59 : decode cX4_stack 59 = .ok (.ireturn, 1) := by decide +kernel
theorem dX4_stack_60 : decode cX4_stack 60 = .ok (.aload_n 0, 1) := by decide +kernel
theorem dX4_stack_61 : decode cX4_stack 61 = .ok (.getfield 12, 3) := by decide +kernel
theorem dX4_stack_64 : decode cX4_stack 64 = .ok (.iload_n 1, 1) := by decide +kernel
theorem dX4_stack_65 : decode cX4_stack 65 = .ok (.iload_n 2, 1) := by decide +kernel
theorem dX4_stack_66 : decode cX4_stack 66 = .ok (.aload_n 0, 1) := by decide +kernel
theorem dX4_stack_67 : decode cX4_stack 67 = .ok (.getfield 12, 3) := by decide +kernel
theorem dX4_stack_70 : decode cX4_stack 70 = .ok (.getfield 121, 3) := by decide +kernel
theorem dX4_stack_73 : decode cX4_stack 73 = .ok (.invokevirtual 153, 3) := by decide +kernel
theorem dX4_stack_76 : decode cX4_stack 76 = .ok (.ifCond .eq 7, 3) := by decide +kernel
theorem dX4_stack_79 : decode cX4_stack 79 = .ok (.iconst 1, 1) := by decide +kernel
theorem dX4_stack_80 : decode cX4_stack 80 = .ok (.goto 4, 3) := by decide +kernel
theorem dX4_stack_83 : decode cX4_stack 83 = .ok (.iconst 0, 1) := by decide +kernel
theorem dX4_stack_84 : decode cX4_stack 84 = .ok (.ireturn, 1) := by decide +kernel
theorem dX4_stack_85 : decode cX4_stack 85 = .ok (.aload_n 0, 1) := by decide +kernel
theorem dX4_stack_86 : decode cX4_stack 86 = .ok (.invokevirtual 106, 3) := by decide +kernel
theorem dX4_stack_89 : decode cX4_stack 89 = .ok (.iload_n 1, 1) := by decide +kernel
theorem dX4_stack_90 : decode cX4_stack 90 = .ok (.iload_n 2, 1) := by decide +kernel
theorem dX4_stack_91 : decode cX4_stack 91 = .ok (.aload_n 0, 1) := by decide +kernel
theorem dX4_stack_92 : decode cX4_stack 92 = .ok (.getfield 12, 3) := by decide +kernel
theorem dX4_stack_95 : decode cX4_stack 95 = .ok (.iload_n 1, 1) := by decide +kernel
theorem dX4_stack_96 : decode cX4_stack 96 = .ok (.iload_n 2, 1) := by decide +kernel
theorem dX4_stack_97 : decode cX4_stack 97 = .ok (.invokevirtual 65, 3) := by decide +kernel
theorem dX4_stack_100 : decode cX4_stack 100 = .ok (.invokevirtual 157, 3) := by decide +kernel
theorem dX4_stack_103 : decode cX4_stack 103 = .ok (.ireturn, 1) := by decide +kernel
set_option maxRecDepth 20000 in
theorem ggX4_block_X4_needSquare : GoodIn wsX4_block wsX4_needSquare := goodIn_ca (goodIn_r _ [6, 7, 8, 1, 9, 10, 11, 12, 13, 14, 15, 16, 17, 18, 105, 106, 107, 108, 109, 110, 111, 112, 113, 114, 115, 116] (by decide +kernel) (by decide +kernel)) (goodIn_sub (fun _ h => List.mem_cons_of_mem _ (List.mem_append_left _ (List.mem_append_right _ h))) (by decide +kernel))
set_option maxRecDepth 20000 in
theorem gX4_block_X4_needSquare : GoodIn wsX4_block (wsV RX4 61 RX4 yX4_needSquare wsX4_needSquare) := goodIn_app (goodIn_of _ (by decide +kernel)) ggX4_block_X4_needSquare
set_option maxRecDepth 20000 in
theorem ggX4_block_X4_needRange : GoodIn wsX4_block wsX4_needRange := goodIn_ca (goodIn_r _ [21, 22, 23] (by decide +kernel) (by decide +kernel)) (goodIn_sub (fun _ h => List.mem_cons_of_mem _ (List.mem_append_right _ h)) (by decide +kernel))
set_option maxRecDepth 20000 in
theorem gX4_block_X4_needRange : GoodIn wsX4_block (va_wsS RX4 50 yX4_needRange wsX4_needRange) := goodIn_app (goodIn_of _ (by decide +kernel)) ggX4_block_X4_needRange
set_option maxRecDepth 20000 in
theorem ggX4_block_X3_heightAt : GoodIn wsX4_block wsX3_heightAt := goodIn_r _ [27, 28, 14, 15, 16, 12, 17, 18, 29, 5, 30, 113, 114, 115, 116] (by decide +kernel) (by decide +kernel)
set_option maxRecDepth 20000 in
theorem gX4_block_X3_heightAt : GoodIn wsX4_block (wsV RX4 65 RX3 yX3_heightAt wsX3_heightAt) := goodIn_app (goodIn_of _ (by decide +kernel)) ggX4_block_X3_heightAt
set_option maxRecDepth 20000 in
theorem ggX4_block_X3_colourAt : GoodIn wsX4_block wsX3_colourAt := goodIn_r _ [34, 35, 36, 25, 26, 12, 27, 28, 14, 15, 16, 17, 18, 29, 5, 30, 113, 114, 115, 116] (by decide +kernel) (by decide +kernel)
set_option maxRecDepth 20000 in
theorem gX4_block_X3_colourAt : GoodIn wsX4_block (wsV RX4 92 RX3 yX3_colourAt wsX3_colourAt) := goodIn_app (goodIn_of _ (by decide +kernel)) ggX4_block_X3_colourAt
set_option maxRecDepth 20000 in
theorem ggX4_block_X4_blockNumber : GoodIn wsX4_block wsX4_blockNumber := goodIn_r _ [39] (by decide +kernel) (by decide +kernel)
set_option maxRecDepth 20000 in
theorem gX4_block_X4_blockNumber : GoodIn wsX4_block (va_wsS RX4 160 yX4_blockNumber wsX4_blockNumber) := goodIn_app (goodIn_of _ (by decide +kernel)) ggX4_block_X4_blockNumber
set_option maxRecDepth 20000 in
theorem ggX4_block_X4_drawnView : GoodIn wsX4_block wsX4_drawnView := goodIn_r _ [43, 44, 45, 1, 46, 47, 48, 49, 50, 51, 52, 53, 54, 55, 56, 57, 25, 26, 12, 27, 28, 14, 15, 16, 17, 18, 29, 5, 30, 58, 59, 60, 61, 62, 63, 64, 65, 66, 67, 68, 69, 70, 71, 72, 73, 74, 75, 76, 38, 39, 77, 78, 79, 80, 81, 82, 83, 84, 85, 86, 87, 88, 89, 90, 91, 92, 93, 94, 95, 96, 97, 98, 99, 100, 101, 105, 106, 107, 108, 109, 110, 111, 112, 117, 118, 119, 120, 121, 122, 113, 114, 115, 116] (by decide +kernel) (by decide +kernel)
set_option maxRecDepth 20000 in
theorem gX4_block_X4_drawnView : GoodIn wsX4_block (wsV RX4 106 RX4 yX4_drawnView wsX4_drawnView) := goodIn_app (goodIn_of _ (by decide +kernel)) ggX4_block_X4_drawnView
set_option maxRecDepth 20000 in
theorem ggX4_block_X2_trianglesOfBlock : GoodIn wsX4_block wsX2_trianglesOfBlock := goodIn_r _ [94, 83, 77, 5, 78, 29, 30, 117, 118, 119, 120, 121, 122] (by decide +kernel) (by decide +kernel)
set_option maxRecDepth 20000 in
theorem gX4_block_X2_trianglesOfBlock : GoodIn wsX4_block (wsV RX4 163 RX2 yX2_trianglesOfBlock wsX2_trianglesOfBlock) := goodIn_app (goodIn_of _ (by decide +kernel)) ggX4_block_X2_trianglesOfBlock
set_option maxRecDepth 20000 in
theorem ggX4_block_X4_faceNumber : GoodIn wsX4_block wsX4_faceNumber := goodIn_r _ [78] (by decide +kernel) (by decide +kernel)
set_option maxRecDepth 20000 in
theorem gX4_block_X4_faceNumber : GoodIn wsX4_block (va_wsS RX4 167 yX4_faceNumber wsX4_faceNumber) := goodIn_app (goodIn_of _ (by decide +kernel)) ggX4_block_X4_faceNumber
set_option maxRecDepth 20000 in
theorem ggX4_block_X2_trianglesOfFace : GoodIn wsX4_block wsX2_trianglesOfFace := goodIn_r _ [98, 83, 29, 5, 30, 117, 118, 119, 120, 121, 122] (by decide +kernel) (by decide +kernel)
set_option maxRecDepth 20000 in
theorem gX4_block_X2_trianglesOfFace : GoodIn wsX4_block (wsV RX4 170 RX2 yX2_trianglesOfFace wsX2_trianglesOfFace) := goodIn_app (goodIn_of _ (by decide +kernel)) ggX4_block_X2_trianglesOfFace
theorem dX4_block_0 : decode cX4_block 0 = .ok (.aload_n 0, 1) := by decide +kernel
theorem dX4_block_1 : decode cX4_block 1 = .ok (.iload_n 1, 1) := by decide +kernel
theorem dX4_block_2 : decode cX4_block 2 = .ok (.iload_n 2, 1) := by decide +kernel
theorem dX4_block_3 : decode cX4_block 3 = .ok (.invokevirtual 61, 3) := by decide +kernel
theorem dX4_block_6 : decode cX4_block 6 = .ok (.iload_n 3, 1) := by decide +kernel
theorem dX4_block_7 : decode cX4_block 7 = .ok (.iconst 0, 1) := by decide +kernel
theorem dX4_block_8 : decode cX4_block 8 = .ok (.bipush 7, 2) := by decide +kernel
theorem dX4_block_10 : decode cX4_block 10 = .ok (.invokestatic 50, 3) := by decide +kernel
theorem dX4_block_13 : decode cX4_block 13 = .ok (.iload 4, 2) := by decide +kernel
theorem dX4_block_15 : decode cX4_block 15 = .ok (.iconst 0, 1) := by decide +kernel
theorem dX4_block_16 : decode cX4_block 16 = .ok (.iconst 4, 1) := by decide +kernel
theorem dX4_block_17 : decode cX4_block 17 = .ok (.invokestatic 50, 3) := by decide +kernel
theorem dX4_block_20 : decode cX4_block 20 = .ok (.iload_n 3, 1) := by decide +kernel
theorem dX4_block_21 : decode cX4_block 21 = .ok (.aload_n 0, 1) := by decide +kernel
theorem dX4_block_22 : decode cX4_block 22 = .ok (.getfield 12, 3) := by decide +kernel
theorem dX4_block_25 : decode cX4_block 25 = .ok (.iload_n 1, 1) := by decide +kernel
theorem dX4_block_26 : decode cX4_block 26 = .ok (.iload_n 2, 1) := by decide +kernel
theorem dX4_block_27 : decode cX4_block 27 = .ok (.invokevirtual 65, 3) := by decide +kernel
theorem dX4_block_30 : decode cX4_block 30 = .ok (.if_icmp .lt 5, 3) := by decide +kernel
theorem dX4_block_33 : decode cX4_block 33 = .ok (.iconst (-1), 1) := by decide +kernel
theorem dX4_block_34 : decode cX4_block 34 = .ok (.ireturn, 1) := by decide +kernel
theorem dX4_block_35 : decode cX4_block 35 = .ok (.iload 4, 2) := by decide +kernel
theorem dX4_block_37 : decode cX4_block 37 = .ok (.ifCond .ne 14, 3) := by decide +kernel
theorem dX4_block_40 : decode cX4_block 40 = .ok (.aload_n 0, 1) := by decide +kernel
theorem dX4_block_41 : decode cX4_block 41 = .ok (.getfield 12, 3) := by decide +kernel
theorem dX4_block_44 : decode cX4_block 44 = .ok (.iload_n 1, 1) := by decide +kernel
theorem dX4_block_45 : decode cX4_block 45 = .ok (.iload_n 2, 1) := by decide +kernel
theorem dX4_block_46 : decode cX4_block 46 = .ok (.iload_n 3, 1) := by decide +kernel
theorem dX4_block_47 : decode cX4_block 47 = .ok (.invokevirtual 92, 3) := by decide +kernel
theorem dX4_block_50 : decode cX4_block 50 = .ok (.ireturn, 1) := by decide +kernel
theorem dX4_block_51 : decode cX4_block 51 = .ok (.iload_n 1, 1) := by decide +kernel
theorem dX4_block_52 : decode cX4_block 52 = .ok (.iload_n 2, 1) := by decide +kernel
theorem dX4_block_53 : decode cX4_block 53 = .ok (.iload_n 3, 1) := by decide +kernel
theorem dX4_block_54 : decode cX4_block 54 = .ok (.invokestatic 160, 3) := by decide +kernel
theorem dX4_block_57 : decode cX4_block 57 = .ok (.istore 5, 2) := by decide +kernel
theorem dX4_block_59 : decode cX4_block 59 = .ok (.iload 4, 2) := by decide +kernel
theorem dX4_block_61 : decode cX4_block 61 = .ok (.iconst 4, 1) := by decide +kernel
theorem dX4_block_62 : decode cX4_block 62 = .ok (.if_icmp .ne 21, 3) := by decide +kernel
theorem dX4_block_65 : decode cX4_block 65 = .ok (.aload_n 0, 1) := by decide +kernel
theorem dX4_block_66 : decode cX4_block 66 = .ok (.invokevirtual 106, 3) := by decide +kernel
theorem dX4_block_69 : decode cX4_block 69 = .ok (.iload 5, 2) := by decide +kernel
theorem dX4_block_71 : decode cX4_block 71 = .ok (.invokevirtual 163, 3) := by decide +kernel
theorem dX4_block_74 : decode cX4_block 74 = .ok (.ifCond .le 7, 3) := by decide +kernel
theorem dX4_block_77 : decode cX4_block 77 = .ok (.iconst 1, 1) := by decide +kernel
theorem dX4_block_78 : decode cX4_block 78 = .ok (.goto 4, 3) := by decide +kernel
theorem dX4_block_81 : decode cX4_block 81 = .ok (.iconst 0, 1) := by decide +kernel
theorem dX4_block_82 : decode cX4_block 82 = .ok (.ireturn, 1) := by decide +kernel
theorem dX4_block_83 : decode cX4_block 83 = .ok (.aload_n 0, 1) := by decide +kernel
theorem dX4_block_84 : decode cX4_block 84 = .ok (.invokevirtual 106, 3) := by decide +kernel
theorem dX4_block_87 : decode cX4_block 87 = .ok (.iload 5, 2) := by decide +kernel
theorem dX4_block_89 : decode cX4_block 89 = .ok (.iload 4, 2) := by decide +kernel
theorem dX4_block_91 : decode cX4_block 91 = .ok (.iconst 1, 1) := by decide +kernel
theorem dX4_block_92 : decode cX4_block 92 = .ok (.isub, 1) := by decide +kernel
theorem dX4_block_93 : decode cX4_block 93 = .ok (.invokestatic 167, 3) := by decide +kernel
theorem dX4_block_96 : decode cX4_block 96 = .ok (.invokevirtual 170, 3) := by decide +kernel
theorem dX4_block_99 : decode cX4_block 99 = .ok (.ireturn, 1) := by decide +kernel
set_option maxRecDepth 20000 in
theorem ggX4_picture_X4_needRange : GoodIn wsX4_picture wsX4_needRange := goodIn_ca (goodIn_r _ [5, 6, 7] (by decide +kernel) (by decide +kernel)) (goodIn_sub (fun _ h => List.mem_cons_of_mem _ (List.mem_append_right _ h)) (by decide +kernel))
set_option maxRecDepth 20000 in
theorem gX4_picture_X4_needRange : GoodIn wsX4_picture (va_wsS RX4 50 yX4_needRange wsX4_needRange) := goodIn_app (goodIn_of _ (by decide +kernel)) ggX4_picture_X4_needRange
set_option maxRecDepth 20000 in
theorem ggX4_picture_X4_drawnView : GoodIn wsX4_picture wsX4_drawnView := goodIn_r _ [11, 12, 13, 1, 14, 15, 16, 17, 18, 19, 20, 21, 22, 23, 24, 25, 26, 27, 28, 29, 30, 31, 32, 33, 34, 35, 36, 4, 37, 38, 39, 40, 41, 42, 43, 44, 45, 46, 47, 48, 49, 50, 51, 52, 53, 54, 55, 56, 57, 58, 59, 60, 61, 62, 63, 64, 65, 66, 67, 68, 69, 70, 71, 72, 73, 74, 75, 76, 77, 78, 79, 80, 81, 82, 83, 100, 101, 102, 103, 104, 105, 106, 107, 108, 109, 110, 111, 112, 113, 114, 115, 116, 117] (by decide +kernel) (by decide +kernel)
set_option maxRecDepth 20000 in
theorem gX4_picture_X4_drawnView : GoodIn wsX4_picture (wsV RX4 106 RX4 yX4_drawnView wsX4_drawnView) := goodIn_app (goodIn_of _ (by decide +kernel)) ggX4_picture_X4_drawnView
set_option maxRecDepth 20000 in
theorem ggX4_picture_X4_triangleNumber : GoodIn wsX4_picture wsX4_triangleNumber := goodIn_r _ [50] (by decide +kernel) (by decide +kernel)
set_option maxRecDepth 20000 in
theorem gX4_picture_X4_triangleNumber : GoodIn wsX4_picture (va_wsS RX4 173 yX4_triangleNumber wsX4_triangleNumber) := goodIn_app (goodIn_of _ (by decide +kernel)) ggX4_picture_X4_triangleNumber
set_option maxRecDepth 20000 in
theorem ggX4_picture_X2_faceIn : GoodIn wsX4_picture wsX2_faceIn := goodIn_r _ [72, 19, 36, 4, 37, 108, 109, 110, 111, 112, 113] (by decide +kernel) (by decide +kernel)
set_option maxRecDepth 20000 in
theorem gX4_picture_X2_faceIn : GoodIn wsX4_picture (wsV RX4 176 RX2 yX2_faceIn wsX2_faceIn) := goodIn_app (goodIn_of _ (by decide +kernel)) ggX4_picture_X2_faceIn
set_option maxRecDepth 20000 in
theorem ggX4_picture_X4_columnOf : GoodIn wsX4_picture wsX4_columnOf := goodIn_r _ [87] (by decide +kernel) (by decide +kernel)
set_option maxRecDepth 20000 in
theorem gX4_picture_X4_columnOf : GoodIn wsX4_picture (va_wsS RX4 179 yX4_columnOf wsX4_columnOf) := goodIn_app (goodIn_of _ (by decide +kernel)) ggX4_picture_X4_columnOf
set_option maxRecDepth 20000 in
theorem ggX4_picture_X4_rowOf : GoodIn wsX4_picture wsX4_rowOf := goodIn_r _ [90] (by decide +kernel) (by decide +kernel)
set_option maxRecDepth 20000 in
theorem gX4_picture_X4_rowOf : GoodIn wsX4_picture (va_wsS RX4 182 yX4_rowOf wsX4_rowOf) := goodIn_app (goodIn_of _ (by decide +kernel)) ggX4_picture_X4_rowOf
set_option maxRecDepth 20000 in
theorem ggX4_picture_X4_heightOf : GoodIn wsX4_picture wsX4_heightOf := goodIn_r _ [93] (by decide +kernel) (by decide +kernel)
set_option maxRecDepth 20000 in
theorem gX4_picture_X4_heightOf : GoodIn wsX4_picture (va_wsS RX4 185 yX4_heightOf wsX4_heightOf) := goodIn_app (goodIn_of _ (by decide +kernel)) ggX4_picture_X4_heightOf
set_option maxRecDepth 20000 in
theorem ggX4_picture_X3_colourAt : GoodIn wsX4_picture wsX3_colourAt := goodIn_r _ [97, 98, 99, 26, 27, 28, 29, 30, 31, 32, 33, 34, 35, 36, 4, 37, 114, 115, 116, 117] (by decide +kernel) (by decide +kernel)
set_option maxRecDepth 20000 in
theorem gX4_picture_X3_colourAt : GoodIn wsX4_picture (wsV RX4 92 RX3 yX3_colourAt wsX3_colourAt) := goodIn_app (goodIn_of _ (by decide +kernel)) ggX4_picture_X3_colourAt
theorem dX4_picture_0 : decode cX4_picture 0 = .ok (.iload_n 1, 1) := by decide +kernel
theorem dX4_picture_1 : decode cX4_picture 1 = .ok (.bipush (-9), 2) := by decide +kernel
theorem dX4_picture_3 : decode cX4_picture 3 = .ok (.bipush 6, 2) := by decide +kernel
theorem dX4_picture_5 : decode cX4_picture 5 = .ok (.invokestatic 50, 3) := by decide +kernel
theorem dX4_picture_8 : decode cX4_picture 8 = .ok (.iload_n 2, 1) := by decide +kernel
theorem dX4_picture_9 : decode cX4_picture 9 = .ok (.bipush (-9), 2) := by decide +kernel
theorem dX4_picture_11 : decode cX4_picture 11 = .ok (.bipush 6, 2) := by decide +kernel
theorem dX4_picture_13 : decode cX4_picture 13 = .ok (.invokestatic 50, 3) := by decide +kernel
theorem dX4_picture_16 : decode cX4_picture 16 = .ok (.iload_n 3, 1) := by decide +kernel
theorem dX4_picture_17 : decode cX4_picture 17 = .ok (.iconst 0, 1) := by decide +kernel
theorem dX4_picture_18 : decode cX4_picture 18 = .ok (.iconst 1, 1) := by decide +kernel
theorem dX4_picture_19 : decode cX4_picture 19 = .ok (.invokestatic 50, 3) := by decide +kernel
theorem dX4_picture_22 : decode cX4_picture 22 = .ok (.iload 4, 2) := by decide +kernel
theorem dX4_picture_24 : decode cX4_picture 24 = .ok (.iconst 0, 1) := by decide +kernel
theorem dX4_picture_25 : decode cX4_picture 25 = .ok (.iconst 4, 1) := by decide +kernel
theorem dX4_picture_26 : decode cX4_picture 26 = .ok (.invokestatic 50, 3) := by decide +kernel
theorem dX4_picture_29 : decode cX4_picture 29 = .ok (.aload_n 0, 1) := by decide +kernel
theorem dX4_picture_30 : decode cX4_picture 30 = .ok (.invokevirtual 106, 3) := by decide +kernel
theorem dX4_picture_33 : decode cX4_picture 33 = .ok (.iload_n 1, 1) := by decide +kernel
theorem dX4_picture_34 : decode cX4_picture 34 = .ok (.iload_n 2, 1) := by decide +kernel
theorem dX4_picture_35 : decode cX4_picture 35 = .ok (.iload_n 3, 1) := by decide +kernel
theorem dX4_picture_36 : decode cX4_picture 36 = .ok (.invokestatic 173, 3) := by decide +kernel
theorem dX4_picture_39 : decode cX4_picture 39 = .ok (.invokevirtual 176, 3) := by decide +kernel
theorem dX4_picture_42 : decode cX4_picture 42 = .ok (.istore 5, 2) := by decide +kernel
theorem dX4_picture_44 : decode cX4_picture 44 = .ok (.iload 5, 2) := by decide +kernel
theorem dX4_picture_46 : decode cX4_picture 46 = .ok (.iconst (-1), 1) := by decide +kernel
theorem dX4_picture_47 : decode cX4_picture 47 = .ok (.if_icmp .ne 5, 3) := by decide +kernel
theorem dX4_picture_50 : decode cX4_picture 50 = .ok (.iconst (-1), 1) := by decide +kernel
theorem dX4_picture_51 : decode cX4_picture 51 = .ok (.ireturn, 1) := by decide +kernel
theorem dX4_picture_52 : decode cX4_picture 52 = .ok (.iload 5, 2) := by decide +kernel
theorem dX4_picture_54 : decode cX4_picture 54 = .ok (.iconst 3, 1) := by decide +kernel
theorem dX4_picture_55 : decode cX4_picture 55 = .ok (.idiv, 1) := by decide +kernel
theorem dX4_picture_56 : decode cX4_picture 56 = .ok (.istore 6, 2) := by decide +kernel
theorem dX4_picture_58 : decode cX4_picture 58 = .ok (.iload 4, 2) := by decide +kernel
theorem dX4_picture_60 : decode cX4_picture 60 = .ok (.tableswitch 55 0 3 #[32, 38, 44, 50], 32) := by decide +kernel
theorem dX4_picture_92 : decode cX4_picture 92 = .ok (.iload 6, 2) := by decide +kernel
theorem dX4_picture_94 : decode cX4_picture 94 = .ok (.invokestatic 179, 3) := by decide +kernel
theorem dX4_picture_97 : decode cX4_picture 97 = .ok (.ireturn, 1) := by decide +kernel
theorem dX4_picture_98 : decode cX4_picture 98 = .ok (.iload 6, 2) := by decide +kernel
theorem dX4_picture_100 : decode cX4_picture 100 = .ok (.invokestatic 182, 3) := by decide +kernel
theorem dX4_picture_103 : decode cX4_picture 103 = .ok (.ireturn, 1) := by decide +kernel
theorem dX4_picture_104 : decode cX4_picture 104 = .ok (.iload 6, 2) := by decide +kernel
theorem dX4_picture_106 : decode cX4_picture 106 = .ok (.invokestatic 185, 3) := by decide +kernel
theorem dX4_picture_109 : decode cX4_picture 109 = .ok (.ireturn, 1) := by decide +kernel
theorem dX4_picture_110 : decode cX4_picture 110 = .ok (.iload 5, 2) := by decide +kernel
theorem dX4_picture_112 : decode cX4_picture 112 = .ok (.iconst 3, 1) := by decide +kernel
theorem dX4_picture_113 : decode cX4_picture 113 = .ok (.irem, 1) := by decide +kernel
theorem dX4_picture_114 : decode cX4_picture 114 = .ok (.ireturn, 1) := by decide +kernel
theorem dX4_picture_115 : decode cX4_picture 115 = .ok (.aload_n 0, 1) := by decide +kernel
theorem dX4_picture_116 : decode cX4_picture 116 = .ok (.getfield 12, 3) := by decide +kernel
theorem dX4_picture_119 : decode cX4_picture 119 = .ok (.iload 6, 2) := by decide +kernel
theorem dX4_picture_121 : decode cX4_picture 121 = .ok (.invokestatic 179, 3) := by decide +kernel
theorem dX4_picture_124 : decode cX4_picture 124 = .ok (.iload 6, 2) := by decide +kernel
theorem dX4_picture_126 : decode cX4_picture 126 = .ok (.invokestatic 182, 3) := by decide +kernel
theorem dX4_picture_129 : decode cX4_picture 129 = .ok (.iload 6, 2) := by decide +kernel
theorem dX4_picture_131 : decode cX4_picture 131 = .ok (.invokestatic 185, 3) := by decide +kernel
theorem dX4_picture_134 : decode cX4_picture 134 = .ok (.invokevirtual 92, 3) := by decide +kernel
theorem dX4_picture_137 : decode cX4_picture 137 = .ok (.ireturn, 1) := by decide +kernel
set_option maxRecDepth 20000 in
theorem ggX4_elevation_X4_needLine : GoodIn wsX4_elevation wsX4_needLine := goodIn_ca (goodIn_r _ [6, 7, 8, 1, 47, 48, 49, 50, 51, 52, 53, 54, 55, 56, 57, 58] (by decide +kernel) (by decide +kernel)) (goodIn_sub (fun _ h => List.mem_cons_of_mem _ (List.mem_append_left _ (List.mem_append_right _ h))) (by decide +kernel))
set_option maxRecDepth 20000 in
theorem gX4_elevation_X4_needLine : GoodIn wsX4_elevation (wsV RX4 188 RX4 yX4_needLine wsX4_needLine) := goodIn_app (goodIn_of _ (by decide +kernel)) ggX4_elevation_X4_needLine
set_option maxRecDepth 20000 in
theorem ggX4_elevation_X4_needRange : GoodIn wsX4_elevation wsX4_needRange := goodIn_ca (goodIn_r _ [11, 12, 13] (by decide +kernel) (by decide +kernel)) (goodIn_sub (fun _ h => List.mem_cons_of_mem _ (List.mem_append_right _ h)) (by decide +kernel))
set_option maxRecDepth 20000 in
theorem gX4_elevation_X4_needRange : GoodIn wsX4_elevation (va_wsS RX4 50 yX4_needRange wsX4_needRange) := goodIn_app (goodIn_of _ (by decide +kernel)) ggX4_elevation_X4_needRange
set_option maxRecDepth 20000 in
theorem ggX4_elevation_X3_greatestIn : GoodIn wsX4_elevation wsX3_greatestIn := goodIn_r _ [18, 19, 20, 21, 22, 23, 24, 25, 26, 17, 27, 28, 29, 30, 31, 32, 33, 34, 35, 36, 37, 5, 38, 55, 56, 57, 58] (by decide +kernel) (by decide +kernel)
set_option maxRecDepth 20000 in
theorem gX4_elevation_X3_greatestIn : GoodIn wsX4_elevation (wsV RX4 191 RX3 yX3_greatestIn wsX3_greatestIn) := goodIn_app (goodIn_of _ (by decide +kernel)) ggX4_elevation_X3_greatestIn
set_option maxRecDepth 20000 in
theorem ggX4_elevation_X3_stacksWith : GoodIn wsX4_elevation wsX3_stacksWith := goodIn_r _ [42, 19, 24, 25, 26, 17, 27, 28, 29, 30, 31, 32, 33, 34, 35, 36, 37, 5, 38, 55, 56, 57, 58] (by decide +kernel) (by decide +kernel)
set_option maxRecDepth 20000 in
theorem gX4_elevation_X3_stacksWith : GoodIn wsX4_elevation (wsV RX4 194 RX3 yX3_stacksWith wsX3_stacksWith) := goodIn_app (goodIn_of _ (by decide +kernel)) ggX4_elevation_X3_stacksWith
set_option maxRecDepth 20000 in
theorem ggX4_elevation_X3_blocksIn : GoodIn wsX4_elevation wsX3_blocksIn := goodIn_r _ [46, 19, 24, 25, 26, 17, 27, 28, 29, 30, 31, 32, 33, 34, 35, 36, 37, 5, 38, 55, 56, 57, 58] (by decide +kernel) (by decide +kernel)
set_option maxRecDepth 20000 in
theorem gX4_elevation_X3_blocksIn : GoodIn wsX4_elevation (wsV RX4 197 RX3 yX3_blocksIn wsX3_blocksIn) := goodIn_app (goodIn_of _ (by decide +kernel)) ggX4_elevation_X3_blocksIn
theorem dX4_elevation_0 : decode cX4_elevation 0 = .ok (.aload_n 0, 1) := by decide +kernel
theorem dX4_elevation_1 : decode cX4_elevation 1 = .ok (.iload_n 2, 1) := by decide +kernel
theorem dX4_elevation_2 : decode cX4_elevation 2 = .ok (.invokevirtual 188, 3) := by decide +kernel
theorem dX4_elevation_5 : decode cX4_elevation 5 = .ok (.iload_n 1, 1) := by decide +kernel
theorem dX4_elevation_6 : decode cX4_elevation 6 = .ok (.iconst 0, 1) := by decide +kernel
theorem dX4_elevation_7 : decode cX4_elevation 7 = .ok (.iconst 1, 1) := by decide +kernel
theorem dX4_elevation_8 : decode cX4_elevation 8 = .ok (.invokestatic 50, 3) := by decide +kernel
theorem dX4_elevation_11 : decode cX4_elevation 11 = .ok (.iload_n 3, 1) := by decide +kernel
theorem dX4_elevation_12 : decode cX4_elevation 12 = .ok (.iconst 0, 1) := by decide +kernel
theorem dX4_elevation_13 : decode cX4_elevation 13 = .ok (.iconst 2, 1) := by decide +kernel
theorem dX4_elevation_14 : decode cX4_elevation 14 = .ok (.invokestatic 50, 3) := by decide +kernel
theorem dX4_elevation_17 : decode cX4_elevation 17 = .ok (.iload_n 3, 1) := by decide +kernel
theorem dX4_elevation_18 : decode cX4_elevation 18 = .ok (.lookupswitch 55 #[(0, 26), (1, 36)], 26) := by decide +kernel
theorem dX4_elevation_44 : decode cX4_elevation 44 = .ok (.aload_n 0, 1) := by decide +kernel
theorem dX4_elevation_45 : decode cX4_elevation 45 = .ok (.getfield 12, 3) := by decide +kernel
theorem dX4_elevation_48 : decode cX4_elevation 48 = .ok (.iload_n 1, 1) := by decide +kernel
theorem dX4_elevation_49 : decode cX4_elevation 49 = .ok (.iload_n 2, 1) := by decide +kernel
theorem dX4_elevation_50 : decode cX4_elevation 50 = .ok (.invokevirtual 191, 3) := by decide +kernel
theorem dX4_elevation_53 : decode cX4_elevation 53 = .ok (.ireturn, 1) := by decide +kernel
theorem dX4_elevation_54 : decode cX4_elevation 54 = .ok (.aload_n 0, 1) := by decide +kernel
theorem dX4_elevation_55 : decode cX4_elevation 55 = .ok (.getfield 12, 3) := by decide +kernel
theorem dX4_elevation_58 : decode cX4_elevation 58 = .ok (.iload_n 1, 1) := by decide +kernel
theorem dX4_elevation_59 : decode cX4_elevation 59 = .ok (.iload_n 2, 1) := by decide +kernel
theorem dX4_elevation_60 : decode cX4_elevation 60 = .ok (.aload_n 0, 1) := by decide +kernel
theorem dX4_elevation_61 : decode cX4_elevation 61 = .ok (.getfield 12, 3) := by decide +kernel
theorem dX4_elevation_64 : decode cX4_elevation 64 = .ok (.iload_n 1, 1) := by decide +kernel
theorem dX4_elevation_65 : decode cX4_elevation 65 = .ok (.iload_n 2, 1) := by decide +kernel
theorem dX4_elevation_66 : decode cX4_elevation 66 = .ok (.invokevirtual 191, 3) := by decide +kernel
theorem dX4_elevation_69 : decode cX4_elevation 69 = .ok (.invokevirtual 194, 3) := by decide +kernel
theorem dX4_elevation_72 : decode cX4_elevation 72 = .ok (.ireturn, 1) := by decide +kernel
theorem dX4_elevation_73 : decode cX4_elevation 73 = .ok (.aload_n 0, 1) := by decide +kernel
theorem dX4_elevation_74 : decode cX4_elevation 74 = .ok (.getfield 12, 3) := by decide +kernel
theorem dX4_elevation_77 : decode cX4_elevation 77 = .ok (.iload_n 1, 1) := by decide +kernel
theorem dX4_elevation_78 : decode cX4_elevation 78 = .ok (.iload_n 2, 1) := by decide +kernel
theorem dX4_elevation_79 : decode cX4_elevation 79 = .ok (.invokevirtual 197, 3) := by decide +kernel
theorem dX4_elevation_82 : decode cX4_elevation 82 = .ok (.ireturn, 1) := by decide +kernel
set_option maxRecDepth 20000 in
theorem ggX4_cut_X4_needLine : GoodIn wsX4_cut wsX4_needLine := goodIn_ca (goodIn_r _ [6, 7, 8, 1, 27, 28, 29, 30, 31, 32, 33, 34, 35, 36, 37, 38] (by decide +kernel) (by decide +kernel)) (goodIn_sub (fun _ h => List.mem_cons_of_mem _ (List.mem_append_left _ (List.mem_append_right _ h))) (by decide +kernel))
set_option maxRecDepth 20000 in
theorem gX4_cut_X4_needLine : GoodIn wsX4_cut (wsV RX4 188 RX4 yX4_needLine wsX4_needLine) := goodIn_app (goodIn_of _ (by decide +kernel)) ggX4_cut_X4_needLine
set_option maxRecDepth 20000 in
theorem ggX4_cut_X4_needRange : GoodIn wsX4_cut wsX4_needRange := goodIn_ca (goodIn_r _ [11, 12, 13] (by decide +kernel) (by decide +kernel)) (goodIn_sub (fun _ h => List.mem_cons_of_mem _ (List.mem_append_right _ h)) (by decide +kernel))
set_option maxRecDepth 20000 in
theorem gX4_cut_X4_needRange : GoodIn wsX4_cut (va_wsS RX4 50 yX4_needRange wsX4_needRange) := goodIn_app (goodIn_of _ (by decide +kernel)) ggX4_cut_X4_needRange
set_option maxRecDepth 20000 in
theorem ggX4_cut_X3_heightAt : GoodIn wsX4_cut wsX3_heightAt := goodIn_r _ [18, 19, 20, 21, 22, 17, 23, 24, 25, 5, 26, 35, 36, 37, 38] (by decide +kernel) (by decide +kernel)
set_option maxRecDepth 20000 in
theorem gX4_cut_X3_heightAt : GoodIn wsX4_cut (wsV RX4 65 RX3 yX3_heightAt wsX3_heightAt) := goodIn_app (goodIn_of _ (by decide +kernel)) ggX4_cut_X3_heightAt
theorem dX4_cut_0 : decode cX4_cut 0 = .ok (.aload_n 0, 1) := by decide +kernel
theorem dX4_cut_1 : decode cX4_cut 1 = .ok (.iload_n 2, 1) := by decide +kernel
theorem dX4_cut_2 : decode cX4_cut 2 = .ok (.invokevirtual 188, 3) := by decide +kernel
theorem dX4_cut_5 : decode cX4_cut 5 = .ok (.iload_n 1, 1) := by decide +kernel
theorem dX4_cut_6 : decode cX4_cut 6 = .ok (.iconst 0, 1) := by decide +kernel
theorem dX4_cut_7 : decode cX4_cut 7 = .ok (.bipush 7, 2) := by decide +kernel
theorem dX4_cut_9 : decode cX4_cut 9 = .ok (.invokestatic 50, 3) := by decide +kernel
theorem dX4_cut_12 : decode cX4_cut 12 = .ok (.iconst 0, 1) := by decide +kernel
theorem dX4_cut_13 : decode cX4_cut 13 = .ok (.istore_n 3, 1) := by decide +kernel
theorem dX4_cut_14 : decode cX4_cut 14 = .ok (.iconst 0, 1) := by decide +kernel
theorem dX4_cut_15 : decode cX4_cut 15 = .ok (.istore 4, 2) := by decide +kernel
theorem dX4_cut_17 : decode cX4_cut 17 = .ok (.iload 4, 2) := by decide +kernel
theorem dX4_cut_19 : decode cX4_cut 19 = .ok (.aload_n 0, 1) := by decide +kernel
theorem dX4_cut_20 : decode cX4_cut 20 = .ok (.getfield 12, 3) := by decide +kernel
theorem dX4_cut_23 : decode cX4_cut 23 = .ok (.getfield 118, 3) := by decide +kernel
theorem dX4_cut_26 : decode cX4_cut 26 = .ok (.if_icmp .ge 30, 3) := by decide +kernel
theorem dX4_cut_29 : decode cX4_cut 29 = .ok (.aload_n 0, 1) := by decide +kernel
theorem dX4_cut_30 : decode cX4_cut 30 = .ok (.getfield 12, 3) := by decide +kernel
theorem dX4_cut_33 : decode cX4_cut 33 = .ok (.iload 4, 2) := by decide +kernel
theorem dX4_cut_35 : decode cX4_cut 35 = .ok (.iload_n 2, 1) := by decide +kernel
theorem dX4_cut_36 : decode cX4_cut 36 = .ok (.invokevirtual 65, 3) := by decide +kernel
theorem dX4_cut_39 : decode cX4_cut 39 = .ok (.iload_n 1, 1) := by decide +kernel
theorem dX4_cut_40 : decode cX4_cut 40 = .ok (.if_icmp .le 10, 3) := by decide +kernel
theorem dX4_cut_43 : decode cX4_cut 43 = .ok (.iload_n 3, 1) := by decide +kernel
theorem dX4_cut_44 : decode cX4_cut 44 = .ok (.iconst 1, 1) := by decide +kernel
theorem dX4_cut_45 : decode cX4_cut 45 = .ok (.iload 4, 2) := by decide +kernel
theorem dX4_cut_47 : decode cX4_cut 47 = .ok (.ishl, 1) := by decide +kernel
theorem dX4_cut_48 : decode cX4_cut 48 = .ok (.ior, 1) := by decide +kernel
theorem dX4_cut_49 : decode cX4_cut 49 = .ok (.istore_n 3, 1) := by decide +kernel
theorem dX4_cut_50 : decode cX4_cut 50 = .ok (.iinc 4 1, 3) := by decide +kernel
theorem dX4_cut_53 : decode cX4_cut 53 = .ok (.goto (-36), 3) := by decide +kernel
theorem dX4_cut_56 : decode cX4_cut 56 = .ok (.iload_n 3, 1) := by decide +kernel
theorem dX4_cut_57 : decode cX4_cut 57 = .ok (.ireturn, 1) := by decide +kernel
set_option maxRecDepth 20000 in
theorem ggX4_count_X4_needRange : GoodIn wsX4_count wsX4_needRange := goodIn_ca (goodIn_r _ [6, 7, 8] (by decide +kernel) (by decide +kernel)) (goodIn_sub (fun _ h => List.mem_cons_of_mem _ (List.mem_append_right _ h)) (by decide +kernel))
set_option maxRecDepth 20000 in
theorem gX4_count_X4_needRange : GoodIn wsX4_count (va_wsS RX4 50 yX4_needRange wsX4_needRange) := goodIn_app (goodIn_of _ (by decide +kernel)) ggX4_count_X4_needRange
set_option maxRecDepth 20000 in
theorem ggX4_count_X3_blockCount : GoodIn wsX4_count wsX3_blockCount := goodIn_r _ [13, 14, 15, 16, 17, 12, 18, 19, 20, 21, 22, 23, 24, 25, 26, 27, 28, 29, 30, 31, 32, 5, 33, 145, 146, 147, 148] (by decide +kernel) (by decide +kernel)
set_option maxRecDepth 20000 in
theorem gX4_count_X3_blockCount : GoodIn wsX4_count (wsV RX4 114 RX3 yX3_blockCount wsX3_blockCount) := goodIn_app (goodIn_of _ (by decide +kernel)) ggX4_count_X3_blockCount
set_option maxRecDepth 20000 in
theorem ggX4_count_X4_drawnView : GoodIn wsX4_count wsX4_drawnView := goodIn_r _ [37, 38, 39, 1, 40, 41, 42, 43, 44, 45, 46, 47, 48, 49, 50, 51, 24, 25, 12, 26, 27, 28, 29, 30, 31, 14, 32, 5, 33, 52, 53, 54, 55, 56, 57, 58, 59, 60, 61, 62, 63, 64, 65, 66, 67, 68, 69, 70, 71, 72, 73, 74, 75, 76, 77, 78, 79, 80, 81, 82, 83, 84, 85, 86, 87, 88, 89, 90, 91, 92, 93, 94, 95, 96, 97, 137, 138, 139, 140, 141, 142, 143, 144, 149, 150, 151, 152, 153, 154, 145, 146, 147, 148] (by decide +kernel) (by decide +kernel)
set_option maxRecDepth 20000 in
theorem gX4_count_X4_drawnView : GoodIn wsX4_count (wsV RX4 106 RX4 yX4_drawnView wsX4_drawnView) := goodIn_app (goodIn_of _ (by decide +kernel)) ggX4_count_X4_drawnView
set_option maxRecDepth 20000 in
theorem ggX4_count_X3_shadowCount : GoodIn wsX4_count wsX3_shadowCount := goodIn_r _ [101, 14, 102, 103, 104, 12, 105, 32, 5, 33, 23, 24, 25, 26, 27, 28, 29, 30, 31, 106, 107, 108, 109, 145, 146, 147, 148] (by decide +kernel) (by decide +kernel)
set_option maxRecDepth 20000 in
theorem gX4_count_X3_shadowCount : GoodIn wsX4_count (wsV RX4 206 RX3 yX3_shadowCount wsX3_shadowCount) := goodIn_app (goodIn_of _ (by decide +kernel)) ggX4_count_X3_shadowCount
set_option maxRecDepth 20000 in
theorem ggX4_count_X3_greatestHeight : GoodIn wsX4_count wsX3_greatestHeight := goodIn_r _ [113, 14, 114, 115, 116, 117, 118, 119, 120, 12, 121, 19, 20, 21, 22, 23, 24, 25, 26, 27, 28, 29, 30, 31, 32, 5, 33, 145, 146, 147, 148] (by decide +kernel) (by decide +kernel)
set_option maxRecDepth 20000 in
theorem gX4_count_X3_greatestHeight : GoodIn wsX4_count (wsV RX4 209 RX3 yX3_greatestHeight wsX3_greatestHeight) := goodIn_app (goodIn_of _ (by decide +kernel)) ggX4_count_X3_greatestHeight
set_option maxRecDepth 20000 in
theorem ggX4_count_X2_trianglesOfColour : GoodIn wsX4_count wsX2_trianglesOfColour := goodIn_r _ [125, 83, 84, 85, 43, 86, 45, 32, 5, 33, 126, 127, 128, 129, 130, 131, 132, 133, 134, 12, 135, 136, 23, 24, 25, 26, 27, 28, 29, 30, 31, 14, 149, 150, 151, 152, 153, 154, 145, 146, 147, 148] (by decide +kernel) (by decide +kernel)
set_option maxRecDepth 20000 in
theorem gX4_count_X2_trianglesOfColour : GoodIn wsX4_count (wsV RX4 212 RX2 yX2_trianglesOfColour wsX2_trianglesOfColour) := goodIn_app (goodIn_of _ (by decide +kernel)) ggX4_count_X2_trianglesOfColour
theorem dX4_count_0 : decode cX4_count 0 = .ok (.iload_n 1, 1) := by decide +kernel
theorem dX4_count_1 : decode cX4_count 1 = .ok (.iconst 0, 1) := by decide +kernel
theorem dX4_count_2 : decode cX4_count 2 = .ok (.bipush 12, 2) := by decide +kernel
theorem dX4_count_4 : decode cX4_count 4 = .ok (.invokestatic 50, 3) := by decide +kernel
theorem dX4_count_7 : decode cX4_count 7 = .ok (.iload_n 1, 1) := by decide +kernel
theorem dX4_count_8 : decode cX4_count 8 = .ok (.tableswitch 147 0 12 #[68, 76, 84, 92, 100, 147, 147, 147, 147, 108, 123, 131, 139], 68) := by decide +kernel
theorem dX4_count_76 : decode cX4_count 76 = .ok (.aload_n 0, 1) := by decide +kernel
theorem dX4_count_77 : decode cX4_count 77 = .ok (.getfield 12, 3) := by decide +kernel
theorem dX4_count_80 : decode cX4_count 80 = .ok (.getfield 118, 3) := by decide +kernel
theorem dX4_count_83 : decode cX4_count 83 = .ok (.ireturn, 1) := by decide +kernel
theorem dX4_count_84 : decode cX4_count 84 = .ok (.aload_n 0, 1) := by decide +kernel
theorem dX4_count_85 : decode cX4_count 85 = .ok (.getfield 12, 3) := by decide +kernel
theorem dX4_count_88 : decode cX4_count 88 = .ok (.invokevirtual 114, 3) := by decide +kernel
theorem dX4_count_91 : decode cX4_count 91 = .ok (.ireturn, 1) := by decide +kernel
theorem dX4_count_92 : decode cX4_count 92 = .ok (.aload_n 0, 1) := by decide +kernel
theorem dX4_count_93 : decode cX4_count 93 = .ok (.invokevirtual 106, 3) := by decide +kernel
theorem dX4_count_96 : decode cX4_count 96 = .ok (.getfield 110, 3) := by decide +kernel
theorem dX4_count_99 : decode cX4_count 99 = .ok (.ireturn, 1) := by decide +kernel
theorem dX4_count_100 : decode cX4_count 100 = .ok (.aload_n 0, 1) := by decide +kernel
theorem dX4_count_101 : decode cX4_count 101 = .ok (.invokevirtual 106, 3) := by decide +kernel
theorem dX4_count_104 : decode cX4_count 104 = .ok (.getfield 200, 3) := by decide +kernel
theorem dX4_count_107 : decode cX4_count 107 = .ok (.ireturn, 1) := by decide +kernel
theorem dX4_count_108 : decode cX4_count 108 = .ok (.aload_n 0, 1) := by decide +kernel
theorem dX4_count_109 : decode cX4_count 109 = .ok (.invokevirtual 106, 3) := by decide +kernel
theorem dX4_count_112 : decode cX4_count 112 = .ok (.getfield 203, 3) := by decide +kernel
theorem dX4_count_115 : decode cX4_count 115 = .ok (.ireturn, 1) := by decide +kernel
theorem dX4_count_116 : decode cX4_count 116 = .ok (.aload_n 0, 1) := by decide +kernel
theorem dX4_count_117 : decode cX4_count 117 = .ok (.getfield 12, 3) := by decide +kernel
theorem dX4_count_120 : decode cX4_count 120 = .ok (.aload_n 0, 1) := by decide +kernel
theorem dX4_count_121 : decode cX4_count 121 = .ok (.getfield 12, 3) := by decide +kernel
theorem dX4_count_124 : decode cX4_count 124 = .ok (.getfield 121, 3) := by decide +kernel
theorem dX4_count_127 : decode cX4_count 127 = .ok (.invokevirtual 206, 3) := by decide +kernel
theorem dX4_count_130 : decode cX4_count 130 = .ok (.ireturn, 1) := by decide +kernel
theorem dX4_count_131 : decode cX4_count 131 = .ok (.aload_n 0, 1) := by decide +kernel
theorem dX4_count_132 : decode cX4_count 132 = .ok (.getfield 12, 3) := by decide +kernel
theorem dX4_count_135 : decode cX4_count 135 = .ok (.invokevirtual 209, 3) := by decide +kernel
theorem dX4_count_138 : decode cX4_count 138 = .ok (.ireturn, 1) := by decide +kernel
theorem dX4_count_139 : decode cX4_count 139 = .ok (.aload_n 0, 1) := by decide +kernel
theorem dX4_count_140 : decode cX4_count 140 = .ok (.getfield 12, 3) := by decide +kernel
theorem dX4_count_143 : decode cX4_count 143 = .ok (.getfield 121, 3) := by decide +kernel
theorem dX4_count_146 : decode cX4_count 146 = .ok (.ireturn, 1) := by decide +kernel
theorem dX4_count_147 : decode cX4_count 147 = .ok (.aload_n 0, 1) := by decide +kernel
theorem dX4_count_148 : decode cX4_count 148 = .ok (.getfield 26, 3) := by decide +kernel
theorem dX4_count_151 : decode cX4_count 151 = .ok (.getfield 147, 3) := by decide +kernel
theorem dX4_count_154 : decode cX4_count 154 = .ok (.ireturn, 1) := by decide +kernel
theorem dX4_count_155 : decode cX4_count 155 = .ok (.aload_n 0, 1) := by decide +kernel
theorem dX4_count_156 : decode cX4_count 156 = .ok (.invokevirtual 106, 3) := by decide +kernel
theorem dX4_count_159 : decode cX4_count 159 = .ok (.aload_n 0, 1) := by decide +kernel
theorem dX4_count_160 : decode cX4_count 160 = .ok (.getfield 12, 3) := by decide +kernel
theorem dX4_count_163 : decode cX4_count 163 = .ok (.iload_n 1, 1) := by decide +kernel
theorem dX4_count_164 : decode cX4_count 164 = .ok (.iconst 5, 1) := by decide +kernel
theorem dX4_count_165 : decode cX4_count 165 = .ok (.isub, 1) := by decide +kernel
theorem dX4_count_166 : decode cX4_count 166 = .ok (.invokevirtual 212, 3) := by decide +kernel
theorem dX4_count_169 : decode cX4_count 169 = .ok (.ireturn, 1) := by decide +kernel
set_option maxRecDepth 20000 in
theorem ggX4_ifHour_X4_needRange : GoodIn wsX4_ifHour wsX4_needRange := goodIn_ca (goodIn_r _ [5, 6, 7] (by decide +kernel) (by decide +kernel)) (goodIn_sub (fun _ h => List.mem_cons_of_mem _ (List.mem_append_right _ h)) (by decide +kernel))
set_option maxRecDepth 20000 in
theorem gX4_ifHour_X4_needRange : GoodIn wsX4_ifHour (va_wsS RX4 50 yX4_needRange wsX4_needRange) := goodIn_app (goodIn_of _ (by decide +kernel)) ggX4_ifHour_X4_needRange
set_option maxRecDepth 20000 in
theorem ggX4_ifHour_X3_shadowCount : GoodIn wsX4_ifHour wsX3_shadowCount := goodIn_r _ [12, 13, 14, 15, 16, 11, 17, 18, 4, 19, 20, 21, 22, 23, 24, 25, 26, 27, 28, 29, 30, 31, 32, 41, 42, 43, 44] (by decide +kernel) (by decide +kernel)
set_option maxRecDepth 20000 in
theorem gX4_ifHour_X3_shadowCount : GoodIn wsX4_ifHour (wsV RX4 206 RX3 yX3_shadowCount wsX3_shadowCount) := goodIn_app (goodIn_of _ (by decide +kernel)) ggX4_ifHour_X3_shadowCount
theorem dX4_ifHour_0 : decode cX4_ifHour 0 = .ok (.iload_n 1, 1) := by decide +kernel
theorem dX4_ifHour_1 : decode cX4_ifHour 1 = .ok (.iconst 0, 1) := by decide +kernel
theorem dX4_ifHour_2 : decode cX4_ifHour 2 = .ok (.bipush 7, 2) := by decide +kernel
theorem dX4_ifHour_4 : decode cX4_ifHour 4 = .ok (.invokestatic 50, 3) := by decide +kernel
theorem dX4_ifHour_7 : decode cX4_ifHour 7 = .ok (.aload_n 0, 1) := by decide +kernel
theorem dX4_ifHour_8 : decode cX4_ifHour 8 = .ok (.getfield 12, 3) := by decide +kernel
theorem dX4_ifHour_11 : decode cX4_ifHour 11 = .ok (.iload_n 1, 1) := by decide +kernel
theorem dX4_ifHour_12 : decode cX4_ifHour 12 = .ok (.invokevirtual 206, 3) := by decide +kernel
theorem dX4_ifHour_15 : decode cX4_ifHour 15 = .ok (.ireturn, 1) := by decide +kernel
set_option maxRecDepth 20000 in
theorem ggX4_brightest_X3_shadowCount : GoodIn wsX4_brightest wsX3_shadowCount := goodIn_r _ [6, 7, 8, 9, 10, 5, 11, 12, 13, 14, 15, 16, 17, 18, 19, 20, 21, 22, 23, 24, 25, 26, 27, 36, 37, 38, 39] (by decide +kernel) (by decide +kernel)
set_option maxRecDepth 20000 in
theorem gX4_brightest_X3_shadowCount : GoodIn wsX4_brightest (wsV RX4 206 RX3 yX3_shadowCount wsX3_shadowCount) := goodIn_app (goodIn_of _ (by decide +kernel)) ggX4_brightest_X3_shadowCount
theorem dX4_brightest_0 : decode cX4_brightest 0 = .ok (.iconst 0, 1) := by decide +kernel
theorem dX4_brightest_1 : decode cX4_brightest 1 = .ok (.istore_n 1, 1) := by decide +kernel
theorem dX4_brightest_2 : decode cX4_brightest 2 = .ok (.aload_n 0, 1) := by decide +kernel
theorem dX4_brightest_3 : decode cX4_brightest 3 = .ok (.getfield 12, 3) := by decide +kernel
theorem dX4_brightest_6 : decode cX4_brightest 6 = .ok (.iconst 0, 1) := by decide +kernel
theorem dX4_brightest_7 : decode cX4_brightest 7 = .ok (.invokevirtual 206, 3) := by decide +kernel
theorem dX4_brightest_10 : decode cX4_brightest 10 = .ok (.istore_n 2, 1) := by decide +kernel
theorem dX4_brightest_11 : decode cX4_brightest 11 = .ok (.iconst 1, 1) := by decide +kernel
theorem dX4_brightest_12 : decode cX4_brightest 12 = .ok (.istore_n 3, 1) := by decide +kernel
theorem dX4_brightest_13 : decode cX4_brightest 13 = .ok (.iload_n 3, 1) := by decide +kernel
theorem dX4_brightest_14 : decode cX4_brightest 14 = .ok (.bipush 8, 2) := by decide +kernel
theorem dX4_brightest_16 : decode cX4_brightest 16 = .ok (.if_icmp .ge 30, 3) := by decide +kernel
theorem dX4_brightest_19 : decode cX4_brightest 19 = .ok (.aload_n 0, 1) := by decide +kernel
theorem dX4_brightest_20 : decode cX4_brightest 20 = .ok (.getfield 12, 3) := by decide +kernel
theorem dX4_brightest_23 : decode cX4_brightest 23 = .ok (.iload_n 3, 1) := by decide +kernel
theorem dX4_brightest_24 : decode cX4_brightest 24 = .ok (.invokevirtual 206, 3) := by decide +kernel
theorem dX4_brightest_27 : decode cX4_brightest 27 = .ok (.istore 4, 2) := by decide +kernel
theorem dX4_brightest_29 : decode cX4_brightest 29 = .ok (.iload 4, 2) := by decide +kernel
theorem dX4_brightest_31 : decode cX4_brightest 31 = .ok (.iload_n 2, 1) := by decide +kernel
theorem dX4_brightest_32 : decode cX4_brightest 32 = .ok (.if_icmp .ge 8, 3) := by decide +kernel
theorem dX4_brightest_35 : decode cX4_brightest 35 = .ok (.iload 4, 2) := by decide +kernel
theorem dX4_brightest_37 : decode cX4_brightest 37 = .ok (.istore_n 2, 1) := by decide +kernel
theorem dX4_brightest_38 : decode cX4_brightest 38 = .ok (.iload_n 3, 1) := by decide +kernel
theorem dX4_brightest_39 : decode cX4_brightest 39 = .ok (.istore_n 1, 1) := by decide +kernel
theorem dX4_brightest_40 : decode cX4_brightest 40 = .ok (.iinc 3 1, 3) := by decide +kernel
theorem dX4_brightest_43 : decode cX4_brightest 43 = .ok (.goto (-30), 3) := by decide +kernel
theorem dX4_brightest_46 : decode cX4_brightest 46 = .ok (.iload_n 1, 1) := by decide +kernel
theorem dX4_brightest_47 : decode cX4_brightest 47 = .ok (.ireturn, 1) := by decide +kernel
set_option maxRecDepth 20000 in
theorem ggX4_same_X4_needRange : GoodIn wsX4_same wsX4_needRange := goodIn_ca (goodIn_r _ [5, 6, 7] (by decide +kernel) (by decide +kernel)) (goodIn_sub (fun _ h => List.mem_cons_of_mem _ (List.mem_append_right _ h)) (by decide +kernel))
set_option maxRecDepth 20000 in
theorem gX4_same_X4_needRange : GoodIn wsX4_same (va_wsS RX4 50 yX4_needRange wsX4_needRange) := goodIn_app (goodIn_of _ (by decide +kernel)) ggX4_same_X4_needRange
set_option maxRecDepth 20000 in
theorem ggX4_same_X3_fewestAlike : GoodIn wsX4_same wsX3_fewestAlike := goodIn_r _ [12, 13, 14, 15, 16, 17, 18, 19, 11, 20, 21, 22, 23, 24, 25, 26, 27, 28, 29, 30, 31, 32, 33, 34, 35, 36, 37, 38, 39, 4, 40, 56, 57, 58, 59] (by decide +kernel) (by decide +kernel)
set_option maxRecDepth 20000 in
theorem gX4_same_X3_fewestAlike : GoodIn wsX4_same (wsV RX4 223 RX3 yX3_fewestAlike wsX3_fewestAlike) := goodIn_app (goodIn_of _ (by decide +kernel)) ggX4_same_X3_fewestAlike
set_option maxRecDepth 20000 in
theorem ggX4_same_X3_mostAlike : GoodIn wsX4_same wsX3_mostAlike := goodIn_r _ [44, 21, 45, 46, 15, 47, 22, 23, 24, 11, 25, 13, 14, 16, 26, 27, 28, 29, 30, 31, 32, 33, 34, 35, 36, 37, 38, 39, 4, 40, 56, 57, 58, 59] (by decide +kernel) (by decide +kernel)
set_option maxRecDepth 20000 in
theorem gX4_same_X3_mostAlike : GoodIn wsX4_same (wsV RX4 226 RX3 yX3_mostAlike wsX3_mostAlike) := goodIn_app (goodIn_of _ (by decide +kernel)) ggX4_same_X3_mostAlike
theorem dX4_same_0 : decode cX4_same 0 = .ok (.iload_n 1, 1) := by decide +kernel
theorem dX4_same_1 : decode cX4_same 1 = .ok (.iconst 0, 1) := by decide +kernel
theorem dX4_same_2 : decode cX4_same 2 = .ok (.iconst 1, 1) := by decide +kernel
theorem dX4_same_3 : decode cX4_same 3 = .ok (.invokestatic 50, 3) := by decide +kernel
theorem dX4_same_6 : decode cX4_same 6 = .ok (.iload_n 1, 1) := by decide +kernel
theorem dX4_same_7 : decode cX4_same 7 = .ok (.ifCond .ne 13, 3) := by decide +kernel
theorem dX4_same_10 : decode cX4_same 10 = .ok (.aload_n 0, 1) := by decide +kernel
theorem dX4_same_11 : decode cX4_same 11 = .ok (.getfield 12, 3) := by decide +kernel
theorem dX4_same_14 : decode cX4_same 14 = .ok (.invokevirtual 223, 3) := by decide +kernel
theorem dX4_same_17 : decode cX4_same 17 = .ok (.goto 10, 3) := by decide +kernel
theorem dX4_same_20 : decode cX4_same 20 = .ok (.aload_n 0, 1) := by decide +kernel
theorem dX4_same_21 : decode cX4_same 21 = .ok (.getfield 12, 3) := by decide +kernel
theorem dX4_same_24 : decode cX4_same 24 = .ok (.invokevirtual 226, 3) := by decide +kernel
theorem dX4_same_27 : decode cX4_same 27 = .ok (.ireturn, 1) := by decide +kernel
set_option maxRecDepth 20000 in
theorem ggX4_seenShare_X3_blockCount : GoodIn wsX4_seenShare wsX3_blockCount := goodIn_r _ [6, 7, 8, 9, 10, 5, 11, 12, 13, 14, 15, 16, 17, 18, 19, 20, 21, 22, 23, 24, 25, 26, 27, 106, 107, 108, 109] (by decide +kernel) (by decide +kernel)
set_option maxRecDepth 20000 in
theorem gX4_seenShare_X3_blockCount : GoodIn wsX4_seenShare (wsV RX4 114 RX3 yX3_blockCount wsX3_blockCount) := goodIn_app (goodIn_of _ (by decide +kernel)) ggX4_seenShare_X3_blockCount
set_option maxRecDepth 20000 in
theorem ggX4_seenShare_X4_drawnView : GoodIn wsX4_seenShare wsX4_drawnView := goodIn_r _ [31, 32, 33, 1, 34, 35, 36, 37, 38, 39, 40, 41, 42, 43, 44, 45, 17, 18, 5, 19, 20, 21, 22, 23, 24, 7, 25, 26, 27, 46, 47, 48, 49, 50, 51, 52, 53, 54, 55, 56, 57, 58, 59, 60, 61, 62, 63, 64, 65, 66, 67, 68, 69, 70, 71, 72, 73, 74, 75, 76, 77, 78, 79, 80, 81, 82, 83, 84, 85, 86, 87, 88, 89, 90, 91, 92, 93, 94, 95, 96, 97, 98, 99, 100, 101, 102, 103, 104, 105, 106, 107, 108, 109] (by decide +kernel) (by decide +kernel)
set_option maxRecDepth 20000 in
theorem gX4_seenShare_X4_drawnView : GoodIn wsX4_seenShare (wsV RX4 106 RX4 yX4_drawnView wsX4_drawnView) := goodIn_app (goodIn_of _ (by decide +kernel)) ggX4_seenShare_X4_drawnView
theorem dX4_seenShare_0 : decode cX4_seenShare 0 = .ok (.aload_n 0, 1) := by decide +kernel
theorem dX4_seenShare_1 : decode cX4_seenShare 1 = .ok (.getfield 12, 3) := by decide +kernel
theorem dX4_seenShare_4 : decode cX4_seenShare 4 = .ok (.invokevirtual 114, 3) := by decide +kernel
theorem dX4_seenShare_7 : decode cX4_seenShare 7 = .ok (.istore_n 1, 1) := by decide +kernel
theorem dX4_seenShare_8 : decode cX4_seenShare 8 = .ok (.iload_n 1, 1) := by decide +kernel
theorem dX4_seenShare_9 : decode cX4_seenShare 9 = .ok (.ifCond .ne 5, 3) := by decide +kernel
theorem dX4_seenShare_12 : decode cX4_seenShare 12 = .ok (.dconst 1, 1) := by decide +kernel
theorem dX4_seenShare_13 : decode cX4_seenShare 13 = .ok (.dreturn, 1) := by decide +kernel
theorem dX4_seenShare_14 : decode cX4_seenShare 14 = .ok (.aload_n 0, 1) := by decide +kernel
theorem dX4_seenShare_15 : decode cX4_seenShare 15 = .ok (.invokevirtual 106, 3) := by decide +kernel
theorem dX4_seenShare_18 : decode cX4_seenShare 18 = .ok (.getfield 110, 3) := by decide +kernel
theorem dX4_seenShare_21 : decode cX4_seenShare 21 = .ok (.i2d, 1) := by decide +kernel
theorem dX4_seenShare_22 : decode cX4_seenShare 22 = .ok (.iload_n 1, 1) := by decide +kernel
theorem dX4_seenShare_23 : decode cX4_seenShare 23 = .ok (.i2d, 1) := by decide +kernel
theorem dX4_seenShare_24 : decode cX4_seenShare 24 = .ok (.ddiv, 1) := by decide +kernel
theorem dX4_seenShare_25 : decode cX4_seenShare 25 = .ok (.dreturn, 1) := by decide +kernel
theorem dX4_needRange_0 : decode cX4_needRange 0 = .ok (.iload_n 0, 1) := by decide +kernel
theorem dX4_needRange_1 : decode cX4_needRange 1 = .ok (.iload_n 1, 1) := by decide +kernel
theorem dX4_needRange_2 : decode cX4_needRange 2 = .ok (.if_icmp .lt 8, 3) := by decide +kernel
theorem dX4_needRange_5 : decode cX4_needRange 5 = .ok (.iload_n 0, 1) := by decide +kernel
theorem dX4_needRange_6 : decode cX4_needRange 6 = .ok (.iload_n 2, 1) := by decide +kernel
theorem dX4_needRange_7 : decode cX4_needRange 7 = .ok (.if_icmp .le 14, 3) := by decide +kernel
theorem dX4_needRange_10 : decode cX4_needRange 10 = .ok (.new 139, 3) := by decide +kernel
theorem dX4_needRange_13 : decode cX4_needRange 13 = .ok (.dup, 1) := by decide +kernel
theorem dX4_needRange_14 : decode cX4_needRange 14 = .ok (.ldc_w 278, 3) := by decide +kernel
theorem dX4_needRange_17 : decode cX4_needRange 17 = .ok (.invokespecial 143, 3) := by decide +kernel
theorem dX4_needRange_20 : decode cX4_needRange 20 = .ok (.athrow, 1) := by decide +kernel
theorem dX4_needRange_21 : decode cX4_needRange 21 = .ok (.return_, 1) := by decide +kernel
set_option maxRecDepth 20000 in
theorem ggX4_needSquare_X3_hasSquare : GoodIn wsX4_needSquare wsX3_hasSquare := goodIn_r _ [8, 9, 10, 11, 7, 12, 13, 22, 23, 24, 25] (by decide +kernel) (by decide +kernel)
set_option maxRecDepth 20000 in
theorem gX4_needSquare_X3_hasSquare : GoodIn wsX4_needSquare (wsV RX4 280 RX3 yX3_hasSquare wsX3_hasSquare) := goodIn_app (goodIn_of _ (by decide +kernel)) ggX4_needSquare_X3_hasSquare
theorem dX4_needSquare_0 : decode cX4_needSquare 0 = .ok (.aload_n 0, 1) := by decide +kernel
theorem dX4_needSquare_1 : decode cX4_needSquare 1 = .ok (.getfield 12, 3) := by decide +kernel
theorem dX4_needSquare_4 : decode cX4_needSquare 4 = .ok (.iload_n 1, 1) := by decide +kernel
theorem dX4_needSquare_5 : decode cX4_needSquare 5 = .ok (.iload_n 2, 1) := by decide +kernel
theorem dX4_needSquare_6 : decode cX4_needSquare 6 = .ok (.invokevirtual 280, 3) := by decide +kernel
theorem dX4_needSquare_9 : decode cX4_needSquare 9 = .ok (.ifCond .ne 14, 3) := by decide +kernel
theorem dX4_needSquare_12 : decode cX4_needSquare 12 = .ok (.new 284, 3) := by decide +kernel
theorem dX4_needSquare_15 : decode cX4_needSquare 15 = .ok (.dup, 1) := by decide +kernel
theorem dX4_needSquare_16 : decode cX4_needSquare 16 = .ok (.ldc_w 286, 3) := by decide +kernel
theorem dX4_needSquare_19 : decode cX4_needSquare 19 = .ok (.invokespecial 288, 3) := by decide +kernel
theorem dX4_needSquare_22 : decode cX4_needSquare 22 = .ok (.athrow, 1) := by decide +kernel
theorem dX4_needSquare_23 : decode cX4_needSquare 23 = .ok (.return_, 1) := by decide +kernel
theorem dX4_needLine_0 : decode cX4_needLine 0 = .ok (.iload_n 1, 1) := by decide +kernel
theorem dX4_needLine_1 : decode cX4_needLine 1 = .ok (.ifCond .lt 14, 3) := by decide +kernel
theorem dX4_needLine_4 : decode cX4_needLine 4 = .ok (.iload_n 1, 1) := by decide +kernel
theorem dX4_needLine_5 : decode cX4_needLine 5 = .ok (.aload_n 0, 1) := by decide +kernel
theorem dX4_needLine_6 : decode cX4_needLine 6 = .ok (.getfield 12, 3) := by decide +kernel
theorem dX4_needLine_9 : decode cX4_needLine 9 = .ok (.getfield 118, 3) := by decide +kernel
theorem dX4_needLine_12 : decode cX4_needLine 12 = .ok (.if_icmp .lt 14, 3) := by decide +kernel
theorem dX4_needLine_15 : decode cX4_needLine 15 = .ok (.new 284, 3) := by decide +kernel
theorem dX4_needLine_18 : decode cX4_needLine 18 = .ok (.dup, 1) := by decide +kernel
theorem dX4_needLine_19 : decode cX4_needLine 19 = .ok (.ldc_w 289, 3) := by decide +kernel
theorem dX4_needLine_22 : decode cX4_needLine 22 = .ok (.invokespecial 288, 3) := by decide +kernel
theorem dX4_needLine_25 : decode cX4_needLine 25 = .ok (.athrow, 1) := by decide +kernel
theorem dX4_needLine_26 : decode cX4_needLine 26 = .ok (.return_, 1) := by decide +kernel
set_option maxRecDepth 20000 in
theorem ggX4_needBlocks_X3_heightAt : GoodIn wsX4_needBlocks wsX3_heightAt := goodIn_r _ [8, 9, 10, 11, 12, 7, 13, 14, 15, 16, 17, 26, 27, 28, 29] (by decide +kernel) (by decide +kernel)
set_option maxRecDepth 20000 in
theorem gX4_needBlocks_X3_heightAt : GoodIn wsX4_needBlocks (wsV RX4 65 RX3 yX3_heightAt wsX3_heightAt) := goodIn_app (goodIn_of _ (by decide +kernel)) ggX4_needBlocks_X3_heightAt
theorem dX4_needBlocks_0 : decode cX4_needBlocks 0 = .ok (.aload_n 0, 1) := by decide +kernel
theorem dX4_needBlocks_1 : decode cX4_needBlocks 1 = .ok (.getfield 12, 3) := by decide +kernel
theorem dX4_needBlocks_4 : decode cX4_needBlocks 4 = .ok (.iload_n 1, 1) := by decide +kernel
theorem dX4_needBlocks_5 : decode cX4_needBlocks 5 = .ok (.iload_n 2, 1) := by decide +kernel
theorem dX4_needBlocks_6 : decode cX4_needBlocks 6 = .ok (.invokevirtual 65, 3) := by decide +kernel
theorem dX4_needBlocks_9 : decode cX4_needBlocks 9 = .ok (.ifCond .ne 14, 3) := by decide +kernel
theorem dX4_needBlocks_12 : decode cX4_needBlocks 12 = .ok (.new 69, 3) := by decide +kernel
theorem dX4_needBlocks_15 : decode cX4_needBlocks 15 = .ok (.dup, 1) := by decide +kernel
theorem dX4_needBlocks_16 : decode cX4_needBlocks 16 = .ok (.ldc_w 291, 3) := by decide +kernel
theorem dX4_needBlocks_19 : decode cX4_needBlocks 19 = .ok (.invokespecial 73, 3) := by decide +kernel
theorem dX4_needBlocks_22 : decode cX4_needBlocks 22 = .ok (.athrow, 1) := by decide +kernel
theorem dX4_needBlocks_23 : decode cX4_needBlocks 23 = .ok (.return_, 1) := by decide +kernel
set_option maxRecDepth 20000 in
theorem ggX4_saveState_X1_save : GoodIn wsX4_saveState wsX1_save := goodIn_r _ [8, 9, 10, 11, 12, 13, 7, 14, 15, 16, 17, 18, 19, 20, 21, 22, 23, 24, 25, 26, 27, 28, 29, 38, 39, 40, 41, 42, 43, 44] (by decide +kernel) (by decide +kernel)
set_option maxRecDepth 20000 in
theorem gX4_saveState_X1_save : GoodIn wsX4_saveState (wsV RX4 293 RX1 yX1_save wsX1_save) := goodIn_app (goodIn_of _ (by decide +kernel)) ggX4_saveState_X1_save
theorem dX4_saveState_0 : decode cX4_saveState 0 = .ok (.aload_n 0, 1) := by decide +kernel
theorem dX4_saveState_1 : decode cX4_saveState 1 = .ok (.getfield 26, 3) := by decide +kernel
theorem dX4_saveState_4 : decode cX4_saveState 4 = .ok (.aload_n 0, 1) := by decide +kernel
theorem dX4_saveState_5 : decode cX4_saveState 5 = .ok (.getfield 12, 3) := by decide +kernel
theorem dX4_saveState_8 : decode cX4_saveState 8 = .ok (.invokevirtual 293, 3) := by decide +kernel
theorem dX4_saveState_11 : decode cX4_saveState 11 = .ok (.aload_n 0, 1) := by decide +kernel
theorem dX4_saveState_12 : decode cX4_saveState 12 = .ok (.iconst 0, 1) := by decide +kernel
theorem dX4_saveState_13 : decode cX4_saveState 13 = .ok (.putfield 46, 3) := by decide +kernel
theorem dX4_saveState_16 : decode cX4_saveState 16 = .ok (.return_, 1) := by decide +kernel
set_option maxRecDepth 20000 in
theorem ggX4_drawnView_X2_draw : GoodIn wsX4_drawnView wsX2_draw := goodIn_r _ [8, 9, 10, 11, 12, 13, 14, 15, 16, 17, 18, 19, 20, 21, 22, 23, 24, 25, 26, 27, 28, 29, 30, 31, 7, 32, 33, 34, 35, 36, 37, 38, 39, 40, 41, 42, 43, 44, 45, 46, 47, 48, 49, 50, 51, 52, 53, 54, 55, 56, 57, 58, 59, 60, 61, 62, 63, 64, 65, 66, 67, 68, 69, 70, 71, 72, 73, 74, 83, 84, 85, 86, 87, 88, 89, 90, 91, 92] (by decide +kernel) (by decide +kernel)
set_option maxRecDepth 20000 in
theorem gX4_drawnView_X2_draw : GoodIn wsX4_drawnView (wsV RX4 229 RX2 yX2_draw wsX2_draw) := goodIn_app (goodIn_of _ (by decide +kernel)) ggX4_drawnView_X2_draw
theorem dX4_drawnView_0 : decode cX4_drawnView 0 = .ok (.aload_n 0, 1) := by decide +kernel
theorem dX4_drawnView_1 : decode cX4_drawnView 1 = .ok (.getfield 46, 3) := by decide +kernel
theorem dX4_drawnView_4 : decode cX4_drawnView 4 = .ok (.ifCond .ne 19, 3) := by decide +kernel
theorem dX4_drawnView_7 : decode cX4_drawnView 7 = .ok (.aload_n 0, 1) := by decide +kernel
theorem dX4_drawnView_8 : decode cX4_drawnView 8 = .ok (.getfield 19, 3) := by decide +kernel
theorem dX4_drawnView_11 : decode cX4_drawnView 11 = .ok (.aload_n 0, 1) := by decide +kernel
theorem dX4_drawnView_12 : decode cX4_drawnView 12 = .ok (.getfield 12, 3) := by decide +kernel
theorem dX4_drawnView_15 : decode cX4_drawnView 15 = .ok (.invokevirtual 229, 3) := by decide +kernel
theorem dX4_drawnView_18 : decode cX4_drawnView 18 = .ok (.aload_n 0, 1) := by decide +kernel
theorem dX4_drawnView_19 : decode cX4_drawnView 19 = .ok (.iconst 1, 1) := by decide +kernel
theorem dX4_drawnView_20 : decode cX4_drawnView 20 = .ok (.putfield 46, 3) := by decide +kernel
theorem dX4_drawnView_23 : decode cX4_drawnView 23 = .ok (.aload_n 0, 1) := by decide +kernel
theorem dX4_drawnView_24 : decode cX4_drawnView 24 = .ok (.getfield 19, 3) := by decide +kernel
theorem dX4_drawnView_27 : decode cX4_drawnView 27 = .ok (.areturn, 1) := by decide +kernel
theorem dX4_valueAt_0 : decode cX4_valueAt 0 = .ok (.iload_n 1, 1) := by decide +kernel
theorem dX4_valueAt_1 : decode cX4_valueAt 1 = .ok (.ifCond .lt 15, 3) := by decide +kernel
theorem dX4_valueAt_4 : decode cX4_valueAt 4 = .ok (.iload_n 1, 1) := by decide +kernel
theorem dX4_valueAt_5 : decode cX4_valueAt 5 = .ok (.aload_n 0, 1) := by decide +kernel
theorem dX4_valueAt_6 : decode cX4_valueAt 6 = .ok (.arraylength, 1) := by decide +kernel
theorem dX4_valueAt_7 : decode cX4_valueAt 7 = .ok (.if_icmp .ge 9, 3) := by decide +kernel
theorem dX4_valueAt_10 : decode cX4_valueAt 10 = .ok (.aload_n 0, 1) := by decide +kernel
theorem dX4_valueAt_11 : decode cX4_valueAt 11 = .ok (.iload_n 1, 1) := by decide +kernel
theorem dX4_valueAt_12 : decode cX4_valueAt 12 = .ok (.iaload, 1) := by decide +kernel
theorem dX4_valueAt_13 : decode cX4_valueAt 13 = .ok (.goto 4, 3) := by decide +kernel
theorem dX4_valueAt_16 : decode cX4_valueAt 16 = .ok (.iconst 0, 1) := by decide +kernel
theorem dX4_valueAt_17 : decode cX4_valueAt 17 = .ok (.ireturn, 1) := by decide +kernel
theorem dX4_setAt_0 : decode cX4_setAt 0 = .ok (.iload_n 1, 1) := by decide +kernel
theorem dX4_setAt_1 : decode cX4_setAt 1 = .ok (.ifCond .lt 13, 3) := by decide +kernel
theorem dX4_setAt_4 : decode cX4_setAt 4 = .ok (.iload_n 1, 1) := by decide +kernel
theorem dX4_setAt_5 : decode cX4_setAt 5 = .ok (.aload_n 0, 1) := by decide +kernel
theorem dX4_setAt_6 : decode cX4_setAt 6 = .ok (.arraylength, 1) := by decide +kernel
theorem dX4_setAt_7 : decode cX4_setAt 7 = .ok (.if_icmp .ge 7, 3) := by decide +kernel
theorem dX4_setAt_10 : decode cX4_setAt 10 = .ok (.aload_n 0, 1) := by decide +kernel
theorem dX4_setAt_11 : decode cX4_setAt 11 = .ok (.iload_n 1, 1) := by decide +kernel
theorem dX4_setAt_12 : decode cX4_setAt 12 = .ok (.iload_n 2, 1) := by decide +kernel
theorem dX4_setAt_13 : decode cX4_setAt 13 = .ok (.iastore, 1) := by decide +kernel
theorem dX4_setAt_14 : decode cX4_setAt 14 = .ok (.return_, 1) := by decide +kernel
theorem dX4_blockNumber_0 : decode cX4_blockNumber 0 = .ok (.iload_n 2, 1) := by decide +kernel
theorem dX4_blockNumber_1 : decode cX4_blockNumber 1 = .ok (.bipush 36, 2) := by decide +kernel
theorem dX4_blockNumber_3 : decode cX4_blockNumber 3 = .ok (.imul, 1) := by decide +kernel
theorem dX4_blockNumber_4 : decode cX4_blockNumber 4 = .ok (.iload_n 1, 1) := by decide +kernel
theorem dX4_blockNumber_5 : decode cX4_blockNumber 5 = .ok (.bipush 6, 2) := by decide +kernel
theorem dX4_blockNumber_7 : decode cX4_blockNumber 7 = .ok (.imul, 1) := by decide +kernel
theorem dX4_blockNumber_8 : decode cX4_blockNumber 8 = .ok (.iadd, 1) := by decide +kernel
theorem dX4_blockNumber_9 : decode cX4_blockNumber 9 = .ok (.iload_n 0, 1) := by decide +kernel
theorem dX4_blockNumber_10 : decode cX4_blockNumber 10 = .ok (.iadd, 1) := by decide +kernel
theorem dX4_blockNumber_11 : decode cX4_blockNumber 11 = .ok (.ireturn, 1) := by decide +kernel
theorem dX4_columnOf_0 : decode cX4_columnOf 0 = .ok (.iload_n 0, 1) := by decide +kernel
theorem dX4_columnOf_1 : decode cX4_columnOf 1 = .ok (.bipush 6, 2) := by decide +kernel
theorem dX4_columnOf_3 : decode cX4_columnOf 3 = .ok (.irem, 1) := by decide +kernel
theorem dX4_columnOf_4 : decode cX4_columnOf 4 = .ok (.ireturn, 1) := by decide +kernel
theorem dX4_rowOf_0 : decode cX4_rowOf 0 = .ok (.iload_n 0, 1) := by decide +kernel
theorem dX4_rowOf_1 : decode cX4_rowOf 1 = .ok (.bipush 6, 2) := by decide +kernel
theorem dX4_rowOf_3 : decode cX4_rowOf 3 = .ok (.idiv, 1) := by decide +kernel
theorem dX4_rowOf_4 : decode cX4_rowOf 4 = .ok (.bipush 6, 2) := by decide +kernel
theorem dX4_rowOf_6 : decode cX4_rowOf 6 = .ok (.irem, 1) := by decide +kernel
theorem dX4_rowOf_7 : decode cX4_rowOf 7 = .ok (.ireturn, 1) := by decide +kernel
theorem dX4_heightOf_0 : decode cX4_heightOf 0 = .ok (.iload_n 0, 1) := by decide +kernel
theorem dX4_heightOf_1 : decode cX4_heightOf 1 = .ok (.bipush 36, 2) := by decide +kernel
theorem dX4_heightOf_3 : decode cX4_heightOf 3 = .ok (.idiv, 1) := by decide +kernel
theorem dX4_heightOf_4 : decode cX4_heightOf 4 = .ok (.ireturn, 1) := by decide +kernel
theorem dX4_faceNumber_0 : decode cX4_faceNumber 0 = .ok (.iload_n 0, 1) := by decide +kernel
theorem dX4_faceNumber_1 : decode cX4_faceNumber 1 = .ok (.iconst 3, 1) := by decide +kernel
theorem dX4_faceNumber_2 : decode cX4_faceNumber 2 = .ok (.imul, 1) := by decide +kernel
theorem dX4_faceNumber_3 : decode cX4_faceNumber 3 = .ok (.iload_n 1, 1) := by decide +kernel
theorem dX4_faceNumber_4 : decode cX4_faceNumber 4 = .ok (.iadd, 1) := by decide +kernel
theorem dX4_faceNumber_5 : decode cX4_faceNumber 5 = .ok (.ireturn, 1) := by decide +kernel
theorem dX4_triangleNumber_0 : decode cX4_triangleNumber 0 = .ok (.iload_n 0, 1) := by decide +kernel
theorem dX4_triangleNumber_1 : decode cX4_triangleNumber 1 = .ok (.bipush (-9), 2) := by decide +kernel
theorem dX4_triangleNumber_3 : decode cX4_triangleNumber 3 = .ok (.isub, 1) := by decide +kernel
theorem dX4_triangleNumber_4 : decode cX4_triangleNumber 4 = .ok (.bipush 16, 2) := by decide +kernel
theorem dX4_triangleNumber_6 : decode cX4_triangleNumber 6 = .ok (.imul, 1) := by decide +kernel
theorem dX4_triangleNumber_7 : decode cX4_triangleNumber 7 = .ok (.iload_n 1, 1) := by decide +kernel
theorem dX4_triangleNumber_8 : decode cX4_triangleNumber 8 = .ok (.iadd, 1) := by decide +kernel
theorem dX4_triangleNumber_9 : decode cX4_triangleNumber 9 = .ok (.bipush (-9), 2) := by decide +kernel
theorem dX4_triangleNumber_11 : decode cX4_triangleNumber 11 = .ok (.isub, 1) := by decide +kernel
theorem dX4_triangleNumber_12 : decode cX4_triangleNumber 12 = .ok (.iconst 2, 1) := by decide +kernel
theorem dX4_triangleNumber_13 : decode cX4_triangleNumber 13 = .ok (.imul, 1) := by decide +kernel
theorem dX4_triangleNumber_14 : decode cX4_triangleNumber 14 = .ok (.iload_n 2, 1) := by decide +kernel
theorem dX4_triangleNumber_15 : decode cX4_triangleNumber 15 = .ok (.iadd, 1) := by decide +kernel
theorem dX4_triangleNumber_16 : decode cX4_triangleNumber 16 = .ok (.ireturn, 1) := by decide +kernel
set_option maxRecDepth 20000 in
theorem ggX4_triangleOfBlock_X4_valueAt : GoodIn wsX4_triangleOfBlock wsX4_valueAt := goodIn_r _ [7] (by decide +kernel) (by decide +kernel)
set_option maxRecDepth 20000 in
theorem gX4_triangleOfBlock_X4_valueAt : GoodIn wsX4_triangleOfBlock (va_wsS RX4 340 yX4_valueAt wsX4_valueAt) := goodIn_app (goodIn_of _ (by decide +kernel)) ggX4_triangleOfBlock_X4_valueAt
set_option maxRecDepth 20000 in
theorem ggX4_triangleOfBlock_X4_triangleNumber : GoodIn wsX4_triangleOfBlock wsX4_triangleNumber := goodIn_r _ [10] (by decide +kernel) (by decide +kernel)
set_option maxRecDepth 20000 in
theorem gX4_triangleOfBlock_X4_triangleNumber : GoodIn wsX4_triangleOfBlock (va_wsS RX4 173 yX4_triangleNumber wsX4_triangleNumber) := goodIn_app (goodIn_of _ (by decide +kernel)) ggX4_triangleOfBlock_X4_triangleNumber
theorem dX4_triangleOfBlock_0 : decode cX4_triangleOfBlock 0 = .ok (.iload_n 0, 1) := by decide +kernel
theorem dX4_triangleOfBlock_1 : decode cX4_triangleOfBlock 1 = .ok (.iload_n 2, 1) := by decide +kernel
theorem dX4_triangleOfBlock_2 : decode cX4_triangleOfBlock 2 = .ok (.isub, 1) := by decide +kernel
theorem dX4_triangleOfBlock_3 : decode cX4_triangleOfBlock 3 = .ok (.getstatic 336, 3) := by decide +kernel
theorem dX4_triangleOfBlock_6 : decode cX4_triangleOfBlock 6 = .ok (.iload_n 3, 1) := by decide +kernel
theorem dX4_triangleOfBlock_7 : decode cX4_triangleOfBlock 7 = .ok (.invokestatic 340, 3) := by decide +kernel
theorem dX4_triangleOfBlock_10 : decode cX4_triangleOfBlock 10 = .ok (.iadd, 1) := by decide +kernel
theorem dX4_triangleOfBlock_11 : decode cX4_triangleOfBlock 11 = .ok (.istore 4, 2) := by decide +kernel
theorem dX4_triangleOfBlock_13 : decode cX4_triangleOfBlock 13 = .ok (.iload_n 1, 1) := by decide +kernel
theorem dX4_triangleOfBlock_14 : decode cX4_triangleOfBlock 14 = .ok (.iload_n 2, 1) := by decide +kernel
theorem dX4_triangleOfBlock_15 : decode cX4_triangleOfBlock 15 = .ok (.isub, 1) := by decide +kernel
theorem dX4_triangleOfBlock_16 : decode cX4_triangleOfBlock 16 = .ok (.getstatic 344, 3) := by decide +kernel
theorem dX4_triangleOfBlock_19 : decode cX4_triangleOfBlock 19 = .ok (.iload_n 3, 1) := by decide +kernel
theorem dX4_triangleOfBlock_20 : decode cX4_triangleOfBlock 20 = .ok (.invokestatic 340, 3) := by decide +kernel
theorem dX4_triangleOfBlock_23 : decode cX4_triangleOfBlock 23 = .ok (.iadd, 1) := by decide +kernel
theorem dX4_triangleOfBlock_24 : decode cX4_triangleOfBlock 24 = .ok (.istore 5, 2) := by decide +kernel
theorem dX4_triangleOfBlock_26 : decode cX4_triangleOfBlock 26 = .ok (.iload 4, 2) := by decide +kernel
theorem dX4_triangleOfBlock_28 : decode cX4_triangleOfBlock 28 = .ok (.iload 5, 2) := by decide +kernel
theorem dX4_triangleOfBlock_30 : decode cX4_triangleOfBlock 30 = .ok (.getstatic 347, 3) := by decide +kernel
theorem dX4_triangleOfBlock_33 : decode cX4_triangleOfBlock 33 = .ok (.iload_n 3, 1) := by decide +kernel
theorem dX4_triangleOfBlock_34 : decode cX4_triangleOfBlock 34 = .ok (.invokestatic 340, 3) := by decide +kernel
theorem dX4_triangleOfBlock_37 : decode cX4_triangleOfBlock 37 = .ok (.invokestatic 173, 3) := by decide +kernel
theorem dX4_triangleOfBlock_40 : decode cX4_triangleOfBlock 40 = .ok (.ireturn, 1) := by decide +kernel
theorem dJ9_max_7cf53_0 : decode cJ9_max_7cf53 0 = .ok (.iload_n 0, 1) := by decide +kernel
theorem dJ9_max_7cf53_1 : decode cJ9_max_7cf53 1 = .ok (.iload_n 1, 1) := by decide +kernel
theorem dJ9_max_7cf53_2 : decode cJ9_max_7cf53 2 = .ok (.if_icmp .lt 7, 3) := by decide +kernel
theorem dJ9_max_7cf53_5 : decode cJ9_max_7cf53 5 = .ok (.iload_n 0, 1) := by decide +kernel
theorem dJ9_max_7cf53_6 : decode cJ9_max_7cf53 6 = .ok (.goto 4, 3) := by decide +kernel
theorem dJ9_max_7cf53_9 : decode cJ9_max_7cf53 9 = .ok (.iload_n 1, 1) := by decide +kernel
theorem dJ9_max_7cf53_10 : decode cJ9_max_7cf53 10 = .ok (.ireturn, 1) := by decide +kernel
theorem dJ9_min_7cf53_0 : decode cJ9_min_7cf53 0 = .ok (.iload_n 0, 1) := by decide +kernel
theorem dJ9_min_7cf53_1 : decode cJ9_min_7cf53 1 = .ok (.iload_n 1, 1) := by decide +kernel
theorem dJ9_min_7cf53_2 : decode cJ9_min_7cf53 2 = .ok (.if_icmp .gt 7, 3) := by decide +kernel
theorem dJ9_min_7cf53_5 : decode cJ9_min_7cf53 5 = .ok (.iload_n 0, 1) := by decide +kernel
theorem dJ9_min_7cf53_6 : decode cJ9_min_7cf53 6 = .ok (.goto 4, 3) := by decide +kernel
theorem dJ9_min_7cf53_9 : decode cJ9_min_7cf53 9 = .ok (.iload_n 1, 1) := by decide +kernel
theorem dJ9_min_7cf53_10 : decode cJ9_min_7cf53 10 = .ok (.ireturn, 1) := by decide +kernel
theorem dJ7_fill_53178_0 : decode cJ7_fill_53178 0 = .ok (.iconst 0, 1) := by decide +kernel
theorem dJ7_fill_53178_1 : decode cJ7_fill_53178 1 = .ok (.istore_n 2, 1) := by decide +kernel
theorem dJ7_fill_53178_2 : decode cJ7_fill_53178 2 = .ok (.aload_n 0, 1) := by decide +kernel
theorem dJ7_fill_53178_3 : decode cJ7_fill_53178 3 = .ok (.arraylength, 1) := by decide +kernel
theorem dJ7_fill_53178_4 : decode cJ7_fill_53178 4 = .ok (.istore_n 3, 1) := by decide +kernel
theorem dJ7_fill_53178_5 : decode cJ7_fill_53178 5 = .ok (.iload_n 2, 1) := by decide +kernel
theorem dJ7_fill_53178_6 : decode cJ7_fill_53178 6 = .ok (.iload_n 3, 1) := by decide +kernel
theorem dJ7_fill_53178_7 : decode cJ7_fill_53178 7 = .ok (.if_icmp .ge 13, 3) := by decide +kernel
theorem dJ7_fill_53178_10 : decode cJ7_fill_53178 10 = .ok (.aload_n 0, 1) := by decide +kernel
theorem dJ7_fill_53178_11 : decode cJ7_fill_53178 11 = .ok (.iload_n 2, 1) := by decide +kernel
theorem dJ7_fill_53178_12 : decode cJ7_fill_53178 12 = .ok (.iload_n 1, 1) := by decide +kernel
theorem dJ7_fill_53178_13 : decode cJ7_fill_53178 13 = .ok (.iastore, 1) := by decide +kernel
theorem dJ7_fill_53178_14 : decode cJ7_fill_53178 14 = .ok (.iinc 2 1, 3) := by decide +kernel
theorem dJ7_fill_53178_17 : decode cJ7_fill_53178 17 = .ok (.goto (-12), 3) := by decide +kernel
theorem dJ7_fill_53178_20 : decode cJ7_fill_53178 20 = .ok (.return_, 1) := by decide +kernel
