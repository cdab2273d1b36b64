theorem dX4_init_0 : decode cX4_init 0 = .ok (.aload_n 0, 1) := by decide +kernel
theorem dX4_init_1 : decode cX4_init 1 = .ok (.invokespecial 3, 3) := by decide +kernel
theorem dX4_init_4 : decode cX4_init 4 = .ok (.aload_n 0, 1) := by decide +kernel
theorem dX4_init_5 : decode cX4_init 5 = .ok (.new 9, 3) := by decide +kernel
theorem dX4_init_8 : decode cX4_init 8 = .ok (.dup, 1) := by decide +kernel
theorem dX4_init_9 : decode cX4_init 9 = .ok (.invokespecial 11, 3) := by decide +kernel
theorem dX4_init_12 : decode cX4_init 12 = .ok (.putfield 12, 3) := by decide +kernel
theorem dX4_init_15 : decode cX4_init 15 = .ok (.aload_n 0, 1) := by decide +kernel
theorem dX4_init_16 : decode cX4_init 16 = .ok (.new 16, 3) := by decide +kernel
theorem dX4_init_19 : decode cX4_init 19 = .ok (.dup, 1) := by decide +kernel
theorem dX4_init_20 : decode cX4_init 20 = .ok (.invokespecial 18, 3) := by decide +kernel
theorem dX4_init_23 : decode cX4_init 23 = .ok (.putfield 19, 3) := by decide +kernel
theorem dX4_init_26 : decode cX4_init 26 = .ok (.aload_n 0, 1) := by decide +kernel
theorem dX4_init_27 : decode cX4_init 27 = .ok (.new 23, 3) := by decide +kernel
theorem dX4_init_30 : decode cX4_init 30 = .ok (.dup, 1) := by decide +kernel
theorem dX4_init_31 : decode cX4_init 31 = .ok (.invokespecial 25, 3) := by decide +kernel
theorem dX4_init_34 : decode cX4_init 34 = .ok (.putfield 26, 3) := by decide +kernel
theorem dX4_init_37 : decode cX4_init 37 = .ok (.aload_n 0, 1) := by decide +kernel
theorem dX4_init_38 : decode cX4_init 38 = .ok (.new 30, 3) := by decide +kernel
theorem dX4_init_41 : decode cX4_init 41 = .ok (.dup, 1) := by decide +kernel
theorem dX4_init_42 : decode cX4_init 42 = .ok (.invokespecial 32, 3) := by decide +kernel
theorem dX4_init_45 : decode cX4_init 45 = .ok (.putfield 33, 3) := by decide +kernel
theorem dX4_init_48 : decode cX4_init 48 = .ok (.aload_n 0, 1) := by decide +kernel
theorem dX4_init_49 : decode cX4_init 49 = .ok (.new 9, 3) := by decide +kernel
theorem dX4_init_52 : decode cX4_init 52 = .ok (.dup, 1) := by decide +kernel
theorem dX4_init_53 : decode cX4_init 53 = .ok (.invokespecial 11, 3) := by decide +kernel
theorem dX4_init_56 : decode cX4_init 56 = .ok (.putfield 37, 3) := by decide +kernel
theorem dX4_init_59 : decode cX4_init 59 = .ok (.aload_n 0, 1) := by decide +kernel
theorem dX4_init_60 : decode cX4_init 60 = .ok (.new 9, 3) := by decide +kernel
theorem dX4_init_63 : decode cX4_init 63 = .ok (.dup, 1) := by decide +kernel
theorem dX4_init_64 : decode cX4_init 64 = .ok (.invokespecial 11, 3) := by decide +kernel
theorem dX4_init_67 : decode cX4_init 67 = .ok (.putfield 40, 3) := by decide +kernel
theorem dX4_init_70 : decode cX4_init 70 = .ok (.aload_n 0, 1) := by decide +kernel
theorem dX4_init_71 : decode cX4_init 71 = .ok (.new 16, 3) := by decide +kernel
theorem dX4_init_74 : decode cX4_init 74 = .ok (.dup, 1) := by decide +kernel
theorem dX4_init_75 : decode cX4_init 75 = .ok (.invokespecial 18, 3) := by decide +kernel
theorem dX4_init_78 : decode cX4_init 78 = .ok (.putfield 43, 3) := by decide +kernel
theorem dX4_init_81 : decode cX4_init 81 = .ok (.aload_n 0, 1) := by decide +kernel
theorem dX4_init_82 : decode cX4_init 82 = .ok (.iconst 0, 1) := by decide +kernel
theorem dX4_init_83 : decode cX4_init 83 = .ok (.putfield 46, 3) := by decide +kernel
theorem dX4_init_86 : decode cX4_init 86 = .ok (.return_, 1) := by decide +kernel
set_option maxRecDepth 20000 in
theorem ggX4_begin_X4_needRange : GoodIn wsX4_begin wsX4_needRange := goodIn_ca (goodIn_r _ [5, 6, 7] (by decide +kernel) (by decide +kernel)) (goodIn_sub (fun _ h => List.mem_cons_of_mem _ (List.mem_append_right _ h)) (by decide +kernel))
set_option maxRecDepth 20000 in
theorem gX4_begin_X4_needRange : GoodIn wsX4_begin (va_wsS RX4 50 yX4_needRange wsX4_needRange) := goodIn_app (goodIn_of _ (by decide +kernel)) ggX4_begin_X4_needRange
set_option maxRecDepth 20000 in
theorem ggX4_begin_X4_saveState : GoodIn wsX4_begin wsX4_saveState := goodIn_r _ [11, 12, 1, 13, 14, 15, 16, 17, 18, 19, 20, 21, 22, 23, 24, 25, 26, 27, 28, 29, 30, 31, 32, 33, 34, 35, 4, 36, 37, 38, 47, 48, 49, 50, 51, 52, 53, 54, 55, 56, 57, 58, 59, 60, 61] (by decide +kernel) (by decide +kernel)
set_option maxRecDepth 20000 in
theorem gX4_begin_X4_saveState : GoodIn wsX4_begin (wsV RX4 54 RX4 yX4_saveState wsX4_saveState) := goodIn_app (goodIn_of _ (by decide +kernel)) ggX4_begin_X4_saveState
set_option maxRecDepth 20000 in
theorem ggX4_begin_X3_empty : GoodIn wsX4_begin wsX3_empty := goodIn_r _ [42, 31, 33, 34, 43, 44, 45, 46, 58, 59, 60, 61] (by decide +kernel) (by decide +kernel)
set_option maxRecDepth 20000 in
theorem gX4_begin_X3_empty : GoodIn wsX4_begin (wsV RX4 57 RX3 yX3_empty wsX3_empty) := goodIn_app (goodIn_of _ (by decide +kernel)) ggX4_begin_X3_empty
theorem dX4_begin_0 : decode cX4_begin 0 = .ok (.iload_n 1, 1) := by decide +kernel
theorem dX4_begin_1 : decode cX4_begin 1 = .ok (.iconst 2, 1) := by decide +kernel
theorem dX4_begin_2 : decode cX4_begin 2 = .ok (.bipush 6, 2) := by decide +kernel
theorem dX4_begin_4 : decode cX4_begin 4 = .ok (.invokestatic 50, 3) := by decide +kernel
theorem dX4_begin_7 : decode cX4_begin 7 = .ok (.aload_n 0, 1) := by decide +kernel
theorem dX4_begin_8 : decode cX4_begin 8 = .ok (.invokevirtual 54, 3) := by decide +kernel
theorem dX4_begin_11 : decode cX4_begin 11 = .ok (.aload_n 0, 1) := by decide +kernel
theorem dX4_begin_12 : decode cX4_begin 12 = .ok (.getfield 12, 3) := by decide +kernel
theorem dX4_begin_15 : decode cX4_begin 15 = .ok (.iload_n 1, 1) := by decide +kernel
theorem dX4_begin_16 : decode cX4_begin 16 = .ok (.invokevirtual 57, 3) := by decide +kernel
theorem dX4_begin_19 : decode cX4_begin 19 = .ok (.iload_n 1, 1) := by decide +kernel
theorem dX4_begin_20 : decode cX4_begin 20 = .ok (.iload_n 1, 1) := by decide +kernel
theorem dX4_begin_21 : decode cX4_begin 21 = .ok (.imul, 1) := by decide +kernel
theorem dX4_begin_22 : decode cX4_begin 22 = .ok (.ireturn, 1) := by decide +kernel
set_option maxRecDepth 20000 in
theorem ggX4_put_X4_needSquare : GoodIn wsX4_put wsX4_needSquare := goodIn_ca (goodIn_r _ [8, 9, 10, 3, 11, 12, 13, 14, 15, 16, 17, 18, 19, 20, 63, 64, 65, 66, 67, 68, 69, 70, 71, 72, 73, 74] (by decide +kernel) (by decide +kernel)) (goodIn_sub (fun _ h => List.mem_cons_of_mem _ (List.mem_append_left _ (List.mem_append_right _ h))) (by decide +kernel))
set_option maxRecDepth 20000 in
theorem gX4_put_X4_needSquare : GoodIn wsX4_put (wsV RX4 61 RX4 yX4_needSquare wsX4_needSquare) := goodIn_app (goodIn_of _ (by decide +kernel)) ggX4_put_X4_needSquare
set_option maxRecDepth 20000 in
theorem ggX4_put_X4_needRange : GoodIn wsX4_put wsX4_needRange := goodIn_ca (goodIn_r _ [23, 24, 25] (by decide +kernel) (by decide +kernel)) (goodIn_sub (fun _ h => List.mem_cons_of_mem _ (List.mem_append_right _ h)) (by decide +kernel))
set_option maxRecDepth 20000 in
theorem gX4_put_X4_needRange : GoodIn wsX4_put (va_wsS RX4 50 yX4_needRange wsX4_needRange) := goodIn_app (goodIn_of _ (by decide +kernel)) ggX4_put_X4_needRange
set_option maxRecDepth 20000 in
theorem ggX4_put_X3_heightAt : GoodIn wsX4_put wsX3_heightAt := goodIn_r _ [29, 30, 16, 17, 18, 14, 19, 20, 31, 7, 32, 71, 72, 73, 74] (by decide +kernel) (by decide +kernel)
set_option maxRecDepth 20000 in
theorem gX4_put_X3_heightAt : GoodIn wsX4_put (wsV RX4 65 RX3 yX3_heightAt wsX3_heightAt) := goodIn_app (goodIn_of _ (by decide +kernel)) ggX4_put_X3_heightAt
set_option maxRecDepth 20000 in
theorem ggX4_put_X4_saveState : GoodIn wsX4_put wsX4_saveState := goodIn_r _ [36, 37, 3, 38, 39, 40, 41, 42, 43, 44, 45, 46, 47, 48, 49, 50, 51, 52, 53, 14, 54, 20, 55, 30, 56, 31, 7, 32, 57, 58, 63, 64, 65, 66, 67, 68, 69, 70, 75, 76, 77, 71, 72, 73, 74] (by decide +kernel) (by decide +kernel)
set_option maxRecDepth 20000 in
theorem gX4_put_X4_saveState : GoodIn wsX4_put (wsV RX4 54 RX4 yX4_saveState wsX4_saveState) := goodIn_app (goodIn_of _ (by decide +kernel)) ggX4_put_X4_saveState
set_option maxRecDepth 20000 in
theorem ggX4_put_X3_addBlock : GoodIn wsX4_put wsX3_addBlock := goodIn_r _ [62, 30, 56, 16, 17, 18, 14, 19, 20, 31, 7, 32, 57, 58, 71, 72, 73, 74] (by decide +kernel) (by decide +kernel)
set_option maxRecDepth 20000 in
theorem gX4_put_X3_addBlock : GoodIn wsX4_put (wsV RX4 76 RX3 yX3_addBlock wsX3_addBlock) := goodIn_app (goodIn_of _ (by decide +kernel)) ggX4_put_X3_addBlock
theorem dX4_put_0 : decode cX4_put 0 = .ok (.aload_n 0, 1) := by decide +kernel
theorem dX4_put_1 : decode cX4_put 1 = .ok (.iload_n 1, 1) := by decide +kernel
theorem dX4_put_2 : decode cX4_put 2 = .ok (.iload_n 2, 1) := by decide +kernel
theorem dX4_put_3 : decode cX4_put 3 = .ok (.invokevirtual 61, 3) := by decide +kernel
theorem dX4_put_6 : decode cX4_put 6 = .ok (.iload_n 3, 1) := by decide +kernel
theorem dX4_put_7 : decode cX4_put 7 = .ok (.iconst 0, 1) := by decide +kernel
theorem dX4_put_8 : decode cX4_put 8 = .ok (.iconst 3, 1) := by decide +kernel
theorem dX4_put_9 : decode cX4_put 9 = .ok (.invokestatic 50, 3) := by decide +kernel
theorem dX4_put_12 : decode cX4_put 12 = .ok (.aload_n 0, 1) := by decide +kernel
theorem dX4_put_13 : decode cX4_put 13 = .ok (.getfield 12, 3) := by decide +kernel
theorem dX4_put_16 : decode cX4_put 16 = .ok (.iload_n 1, 1) := by decide +kernel
theorem dX4_put_17 : decode cX4_put 17 = .ok (.iload_n 2, 1) := by decide +kernel
theorem dX4_put_18 : decode cX4_put 18 = .ok (.invokevirtual 65, 3) := by decide +kernel
theorem dX4_put_21 : decode cX4_put 21 = .ok (.bipush 8, 2) := by decide +kernel
theorem dX4_put_23 : decode cX4_put 23 = .ok (.if_icmp .lt 13, 3) := by decide +kernel
theorem dX4_put_26 : decode cX4_put 26 = .ok (.new 69, 3) := by decide +kernel
theorem dX4_put_29 : decode cX4_put 29 = .ok (.dup, 1) := by decide +kernel
theorem dX4_put_30 : decode cX4_put 30 = .ok (.ldc 71, 2) := by decide +kernel
theorem dX4_put_32 : decode cX4_put 32 = .ok (.invokespecial 73, 3) := by decide +kernel
theorem dX4_put_35 : decode cX4_put 35 = .ok (.athrow, 1) := by decide +kernel
theorem dX4_put_36 : decode cX4_put 36 = .ok (.aload_n 0, 1) := by decide +kernel
theorem dX4_put_37 : decode cX4_put 37 = .ok (.invokevirtual 54, 3) := by decide +kernel
theorem dX4_put_40 : decode cX4_put 40 = .ok (.aload_n 0, 1) := by decide +kernel
theorem dX4_put_41 : decode cX4_put 41 = .ok (.getfield 12, 3) := by decide +kernel
theorem dX4_put_44 : decode cX4_put 44 = .ok (.iload_n 1, 1) := by decide +kernel
theorem dX4_put_45 : decode cX4_put 45 = .ok (.iload_n 2, 1) := by decide +kernel
theorem dX4_put_46 : decode cX4_put 46 = .ok (.iload_n 3, 1) := by decide +kernel
theorem dX4_put_47 : decode cX4_put 47 = .ok (.invokevirtual 76, 3) := by decide +kernel
theorem dX4_put_50 : decode cX4_put 50 = .ok (.aload_n 0, 1) := by decide +kernel
theorem dX4_put_51 : decode cX4_put 51 = .ok (.getfield 12, 3) := by decide +kernel
theorem dX4_put_54 : decode cX4_put 54 = .ok (.iload_n 1, 1) := by decide +kernel
theorem dX4_put_55 : decode cX4_put 55 = .ok (.iload_n 2, 1) := by decide +kernel
theorem dX4_put_56 : decode cX4_put 56 = .ok (.invokevirtual 65, 3) := by decide +kernel
theorem dX4_put_59 : decode cX4_put 59 = .ok (.ireturn, 1) := by decide +kernel
set_option maxRecDepth 20000 in
theorem ggX4_take_X4_needSquare : GoodIn wsX4_take wsX4_needSquare := goodIn_ca (goodIn_r _ [6, 7, 8, 1, 9, 10, 11, 12, 13, 14, 15, 16, 17, 18, 75, 76, 77, 78, 79, 80, 81, 82, 83, 84, 85, 86] (by decide +kernel) (by decide +kernel)) (goodIn_sub (fun _ h => List.mem_cons_of_mem _ (List.mem_append_left _ (List.mem_append_right _ h))) (by decide +kernel))
set_option maxRecDepth 20000 in
theorem gX4_take_X4_needSquare : GoodIn wsX4_take (wsV RX4 61 RX4 yX4_needSquare wsX4_needSquare) := goodIn_app (goodIn_of _ (by decide +kernel)) ggX4_take_X4_needSquare
set_option maxRecDepth 20000 in
theorem ggX4_take_X4_needBlocks : GoodIn wsX4_take wsX4_needBlocks := goodIn_ca (goodIn_r _ [22, 23, 24, 1, 25, 26, 27, 12, 28, 29, 14, 15, 16, 17, 18, 30, 5, 31, 75, 76, 77, 78, 79, 80, 81, 82, 83, 84, 85, 86] (by decide +kernel) (by decide +kernel)) (goodIn_sub (fun _ h => List.mem_cons_of_mem _ (List.mem_append_right _ h)) (by decide +kernel))
set_option maxRecDepth 20000 in
theorem gX4_take_X4_needBlocks : GoodIn wsX4_take (wsV RX4 79 RX4 yX4_needBlocks wsX4_needBlocks) := goodIn_app (goodIn_of _ (by decide +kernel)) ggX4_take_X4_needBlocks
set_option maxRecDepth 20000 in
theorem ggX4_take_X4_saveState : GoodIn wsX4_take wsX4_saveState := goodIn_r _ [35, 36, 1, 37, 38, 39, 40, 41, 42, 43, 44, 45, 46, 47, 48, 49, 50, 51, 52, 12, 53, 18, 54, 29, 55, 30, 5, 31, 56, 57, 75, 76, 77, 78, 79, 80, 81, 82, 87, 88, 89, 83, 84, 85, 86] (by decide +kernel) (by decide +kernel)
set_option maxRecDepth 20000 in
theorem gX4_take_X4_saveState : GoodIn wsX4_take (wsV RX4 54 RX4 yX4_saveState wsX4_saveState) := goodIn_app (goodIn_of _ (by decide +kernel)) ggX4_take_X4_saveState
set_option maxRecDepth 20000 in
theorem ggX4_take_X3_topColour : GoodIn wsX4_take wsX3_topColour := goodIn_r _ [61, 62, 26, 27, 12, 28, 29, 14, 15, 16, 17, 18, 30, 5, 31, 63, 64, 65, 66, 55, 83, 84, 85, 86] (by decide +kernel) (by decide +kernel)
set_option maxRecDepth 20000 in
theorem gX4_take_X3_topColour : GoodIn wsX4_take (wsV RX4 82 RX3 yX3_topColour wsX3_topColour) := goodIn_app (goodIn_of _ (by decide +kernel)) ggX4_take_X3_topColour
set_option maxRecDepth 20000 in
theorem ggX4_take_X3_removeBlock : GoodIn wsX4_take wsX3_removeBlock := goodIn_r _ [70, 62, 26, 27, 12, 28, 29, 14, 15, 16, 17, 18, 30, 5, 31, 71, 72, 73, 74, 55, 56, 57, 83, 84, 85, 86] (by decide +kernel) (by decide +kernel)
set_option maxRecDepth 20000 in
theorem gX4_take_X3_removeBlock : GoodIn wsX4_take (wsV RX4 85 RX3 yX3_removeBlock wsX3_removeBlock) := goodIn_app (goodIn_of _ (by decide +kernel)) ggX4_take_X3_removeBlock
theorem dX4_take_0 : decode cX4_take 0 = .ok (.aload_n 0, 1) := by decide +kernel
theorem dX4_take_1 : decode cX4_take 1 = .ok (.iload_n 1, 1) := by decide +kernel
theorem dX4_take_2 : decode cX4_take 2 = .ok (.iload_n 2, 1) := by decide +kernel
theorem dX4_take_3 : decode cX4_take 3 = .ok (.invokevirtual 61, 3) := by decide +kernel
theorem dX4_take_6 : decode cX4_take 6 = .ok (.aload_n 0, 1) := by decide +kernel
theorem dX4_take_7 : decode cX4_take 7 = .ok (.iload_n 1, 1) := by decide +kernel
theorem dX4_take_8 : decode cX4_take 8 = .ok (.iload_n 2, 1) := by decide +kernel
theorem dX4_take_9 : decode cX4_take 9 = .ok (.invokevirtual 79, 3) := by decide +kernel
theorem dX4_take_12 : decode cX4_take 12 = .ok (.aload_n 0, 1) := by decide +kernel
theorem dX4_take_13 : decode cX4_take 13 = .ok (.invokevirtual 54, 3) := by decide +kernel
theorem dX4_take_16 : decode cX4_take 16 = .ok (.aload_n 0, 1) := by decide +kernel
theorem dX4_take_17 : decode cX4_take 17 = .ok (.getfield 12, 3) := by decide +kernel
theorem dX4_take_20 : decode cX4_take 20 = .ok (.iload_n 1, 1) := by decide +kernel
theorem dX4_take_21 : decode cX4_take 21 = .ok (.iload_n 2, 1) := by decide +kernel
theorem dX4_take_22 : decode cX4_take 22 = .ok (.invokevirtual 82, 3) := by decide +kernel
theorem dX4_take_25 : decode cX4_take 25 = .ok (.istore_n 3, 1) := by decide +kernel
theorem dX4_take_26 : decode cX4_take 26 = .ok (.aload_n 0, 1) := by decide +kernel
theorem dX4_take_27 : decode cX4_take 27 = .ok (.getfield 12, 3) := by decide +kernel
theorem dX4_take_30 : decode cX4_take 30 = .ok (.iload_n 1, 1) := by decide +kernel
theorem dX4_take_31 : decode cX4_take 31 = .ok (.iload_n 2, 1) := by decide +kernel
theorem dX4_take_32 : decode cX4_take 32 = .ok (.invokevirtual 85, 3) := by decide +kernel
theorem dX4_take_35 : decode cX4_take 35 = .ok (.iload_n 3, 1) := by decide +kernel
theorem dX4_take_36 : decode cX4_take 36 = .ok (.ireturn, 1) := by decide +kernel
set_option maxRecDepth 20000 in
theorem ggX4_carry_X4_needSquare : GoodIn wsX4_carry wsX4_needSquare := goodIn_ca (goodIn_r _ [8, 9, 10, 3, 11, 12, 13, 14, 15, 16, 17, 18, 19, 20, 67, 68, 69, 70, 71, 72, 73, 74, 75, 76, 77, 78] (by decide +kernel) (by decide +kernel)) (goodIn_sub (fun _ h => List.mem_cons_of_mem _ (List.mem_append_right _ h)) (by decide +kernel))
set_option maxRecDepth 20000 in
theorem gX4_carry_X4_needSquare : GoodIn wsX4_carry (wsV RX4 61 RX4 yX4_needSquare wsX4_needSquare) := goodIn_app (goodIn_of _ (by decide +kernel)) ggX4_carry_X4_needSquare
set_option maxRecDepth 20000 in
theorem ggX4_carry_X3_heightAt : GoodIn wsX4_carry wsX3_heightAt := goodIn_r _ [24, 25, 16, 17, 18, 14, 19, 20, 26, 7, 27, 75, 76, 77, 78] (by decide +kernel) (by decide +kernel)
set_option maxRecDepth 20000 in
theorem gX4_carry_X3_heightAt : GoodIn wsX4_carry (wsV RX4 65 RX3 yX3_heightAt wsX3_heightAt) := goodIn_app (goodIn_of _ (by decide +kernel)) ggX4_carry_X3_heightAt
set_option maxRecDepth 20000 in
theorem ggX4_carry_X4_saveState : GoodIn wsX4_carry wsX4_saveState := goodIn_r _ [31, 32, 3, 33, 34, 35, 36, 37, 38, 39, 40, 41, 42, 43, 44, 45, 46, 47, 48, 14, 49, 20, 50, 25, 51, 26, 7, 27, 52, 53, 67, 68, 69, 70, 71, 72, 73, 74, 79, 80, 81, 75, 76, 77, 78] (by decide +kernel) (by decide +kernel)
set_option maxRecDepth 20000 in
theorem gX4_carry_X4_saveState : GoodIn wsX4_carry (wsV RX4 54 RX4 yX4_saveState wsX4_saveState) := goodIn_app (goodIn_of _ (by decide +kernel)) ggX4_carry_X4_saveState
set_option maxRecDepth 20000 in
theorem ggX4_carry_X3_colourAt : GoodIn wsX4_carry wsX3_colourAt := goodIn_r _ [57, 51, 58, 22, 23, 14, 24, 25, 16, 17, 18, 19, 20, 26, 7, 27, 75, 76, 77, 78] (by decide +kernel) (by decide +kernel)
set_option maxRecDepth 20000 in
theorem gX4_carry_X3_colourAt : GoodIn wsX4_carry (wsV RX4 92 RX3 yX3_colourAt wsX3_colourAt) := goodIn_app (goodIn_of _ (by decide +kernel)) ggX4_carry_X3_colourAt
set_option maxRecDepth 20000 in
theorem ggX4_carry_X3_addBlock : GoodIn wsX4_carry wsX3_addBlock := goodIn_r _ [62, 25, 51, 16, 17, 18, 14, 19, 20, 26, 7, 27, 52, 53, 75, 76, 77, 78] (by decide +kernel) (by decide +kernel)
set_option maxRecDepth 20000 in
theorem gX4_carry_X3_addBlock : GoodIn wsX4_carry (wsV RX4 76 RX3 yX3_addBlock wsX3_addBlock) := goodIn_app (goodIn_of _ (by decide +kernel)) ggX4_carry_X3_addBlock
set_option maxRecDepth 20000 in
theorem ggX4_carry_X3_lowerTo : GoodIn wsX4_carry wsX3_lowerTo := goodIn_r _ [66, 25, 51, 16, 17, 18, 14, 19, 20, 26, 7, 27, 52, 53, 75, 76, 77, 78] (by decide +kernel) (by decide +kernel)
set_option maxRecDepth 20000 in
theorem gX4_carry_X3_lowerTo : GoodIn wsX4_carry (wsV RX4 96 RX3 yX3_lowerTo wsX3_lowerTo) := goodIn_app (goodIn_of _ (by decide +kernel)) ggX4_carry_X3_lowerTo
theorem dX4_carry_0 : decode cX4_carry 0 = .ok (.aload_n 0, 1) := by decide +kernel
theorem dX4_carry_1 : decode cX4_carry 1 = .ok (.iload_n 1, 1) := by decide +kernel
theorem dX4_carry_2 : decode cX4_carry 2 = .ok (.iload_n 2, 1) := by decide +kernel
theorem dX4_carry_3 : decode cX4_carry 3 = .ok (.invokevirtual 61, 3) := by decide +kernel
theorem dX4_carry_6 : decode cX4_carry 6 = .ok (.aload_n 0, 1) := by decide +kernel
theorem dX4_carry_7 : decode cX4_carry 7 = .ok (.iload_n 3, 1) := by decide +kernel
theorem dX4_carry_8 : decode cX4_carry 8 = .ok (.iload 4, 2) := by decide +kernel
theorem dX4_carry_10 : decode cX4_carry 10 = .ok (.invokevirtual 61, 3) := by decide +kernel
theorem dX4_carry_13 : decode cX4_carry 13 = .ok (.iload_n 1, 1) := by decide +kernel
theorem dX4_carry_14 : decode cX4_carry 14 = .ok (.iload_n 3, 1) := by decide +kernel
theorem dX4_carry_15 : decode cX4_carry 15 = .ok (.if_icmp .ne 19, 3) := by decide +kernel
theorem dX4_carry_18 : decode cX4_carry 18 = .ok (.iload_n 2, 1) := by decide +kernel
theorem dX4_carry_19 : decode cX4_carry 19 = .ok (.iload 4, 2) := by decide +kernel
theorem dX4_carry_21 : decode cX4_carry 21 = .ok (.if_icmp .ne 13, 3) := by decide +kernel
theorem dX4_carry_24 : decode cX4_carry 24 = .ok (.new 69, 3) := by decide +kernel
theorem dX4_carry_27 : decode cX4_carry 27 = .ok (.dup, 1) := by decide +kernel
theorem dX4_carry_28 : decode cX4_carry 28 = .ok (.ldc 88, 2) := by decide +kernel
theorem dX4_carry_30 : decode cX4_carry 30 = .ok (.invokespecial 73, 3) := by decide +kernel
theorem dX4_carry_33 : decode cX4_carry 33 = .ok (.athrow, 1) := by decide +kernel
theorem dX4_carry_34 : decode cX4_carry 34 = .ok (.aload_n 0, 1) := by decide +kernel
theorem dX4_carry_35 : decode cX4_carry 35 = .ok (.getfield 12, 3) := by decide +kernel
theorem dX4_carry_38 : decode cX4_carry 38 = .ok (.iload_n 1, 1) := by decide +kernel
theorem dX4_carry_39 : decode cX4_carry 39 = .ok (.iload_n 2, 1) := by decide +kernel
theorem dX4_carry_40 : decode cX4_carry 40 = .ok (.invokevirtual 65, 3) := by decide +kernel
theorem dX4_carry_43 : decode cX4_carry 43 = .ok (.aload_n 0, 1) := by decide +kernel
theorem dX4_carry_44 : decode cX4_carry 44 = .ok (.getfield 12, 3) := by decide +kernel
theorem dX4_carry_47 : decode cX4_carry 47 = .ok (.iload_n 3, 1) := by decide +kernel
theorem dX4_carry_48 : decode cX4_carry 48 = .ok (.iload 4, 2) := by decide +kernel
theorem dX4_carry_50 : decode cX4_carry 50 = .ok (.invokevirtual 65, 3) := by decide +kernel
theorem dX4_carry_53 : decode cX4_carry 53 = .ok (.iadd, 1) := by decide +kernel
theorem dX4_carry_54 : decode cX4_carry 54 = .ok (.bipush 8, 2) := by decide +kernel
theorem dX4_carry_56 : decode cX4_carry 56 = .ok (.if_icmp .le 13, 3) := by decide +kernel
theorem dX4_carry_59 : decode cX4_carry 59 = .ok (.new 69, 3) := by decide +kernel
theorem dX4_carry_62 : decode cX4_carry 62 = .ok (.dup, 1) := by decide +kernel
theorem dX4_carry_63 : decode cX4_carry 63 = .ok (.ldc 90, 2) := by decide +kernel
theorem dX4_carry_65 : decode cX4_carry 65 = .ok (.invokespecial 73, 3) := by decide +kernel
theorem dX4_carry_68 : decode cX4_carry 68 = .ok (.athrow, 1) := by decide +kernel
theorem dX4_carry_69 : decode cX4_carry 69 = .ok (.aload_n 0, 1) := by decide +kernel
theorem dX4_carry_70 : decode cX4_carry 70 = .ok (.invokevirtual 54, 3) := by decide +kernel
theorem dX4_carry_73 : decode cX4_carry 73 = .ok (.aload_n 0, 1) := by decide +kernel
theorem dX4_carry_74 : decode cX4_carry 74 = .ok (.getfield 12, 3) := by decide +kernel
theorem dX4_carry_77 : decode cX4_carry 77 = .ok (.iload_n 1, 1) := by decide +kernel
theorem dX4_carry_78 : decode cX4_carry 78 = .ok (.iload_n 2, 1) := by decide +kernel
theorem dX4_carry_79 : decode cX4_carry 79 = .ok (.invokevirtual 65, 3) := by decide +kernel
theorem dX4_carry_82 : decode cX4_carry 82 = .ok (.istore 5, 2) := by decide +kernel
theorem dX4_carry_84 : decode cX4_carry 84 = .ok (.iconst 0, 1) := by decide +kernel
theorem dX4_carry_85 : decode cX4_carry 85 = .ok (.istore 6, 2) := by decide +kernel
theorem dX4_carry_87 : decode cX4_carry 87 = .ok (.iload 6, 2) := by decide +kernel
theorem dX4_carry_89 : decode cX4_carry 89 = .ok (.iload 5, 2) := by decide +kernel
theorem dX4_carry_91 : decode cX4_carry 91 = .ok (.if_icmp .ge 30, 3) := by decide +kernel
theorem dX4_carry_94 : decode cX4_carry 94 = .ok (.aload_n 0, 1) := by decide +kernel
theorem dX4_carry_95 : decode cX4_carry 95 = .ok (.getfield 12, 3) := by decide +kernel
theorem dX4_carry_98 : decode cX4_carry 98 = .ok (.iload_n 3, 1) := by decide +kernel
theorem dX4_carry_99 : decode cX4_carry 99 = .ok (.iload 4, 2) := by decide +kernel
theorem dX4_carry_101 : decode cX4_carry 101 = .ok (.aload_n 0, 1) := by decide +kernel
theorem dX4_carry_102 : decode cX4_carry 102 = .ok (.getfield 12, 3) := by decide +kernel
theorem dX4_carry_105 : decode cX4_carry 105 = .ok (.iload_n 1, 1) := by decide +kernel
theorem dX4_carry_106 : decode cX4_carry 106 = .ok (.iload_n 2, 1) := by decide +kernel
theorem dX4_carry_107 : decode cX4_carry 107 = .ok (.iload 6, 2) := by decide +kernel
theorem dX4_carry_109 : decode cX4_carry 109 = .ok (.invokevirtual 92, 3) := by decide +kernel
theorem dX4_carry_112 : decode cX4_carry 112 = .ok (.invokevirtual 76, 3) := by decide +kernel
theorem dX4_carry_115 : decode cX4_carry 115 = .ok (.iinc 6 1, 3) := by decide +kernel
theorem dX4_carry_118 : decode cX4_carry 118 = .ok (.goto (-31), 3) := by decide +kernel
theorem dX4_carry_121 : decode cX4_carry 121 = .ok (.aload_n 0, 1) := by decide +kernel
theorem dX4_carry_122 : decode cX4_carry 122 = .ok (.getfield 12, 3) := by decide +kernel
theorem dX4_carry_125 : decode cX4_carry 125 = .ok (.iload_n 1, 1) := by decide +kernel
theorem dX4_carry_126 : decode cX4_carry 126 = .ok (.iload_n 2, 1) := by decide +kernel
theorem dX4_carry_127 : decode cX4_carry 127 = .ok (.iconst 0, 1) := by decide +kernel
theorem dX4_carry_128 : decode cX4_carry 128 = .ok (.invokevirtual 96, 3) := by decide +kernel
theorem dX4_carry_131 : decode cX4_carry 131 = .ok (.aload_n 0, 1) := by decide +kernel
theorem dX4_carry_132 : decode cX4_carry 132 = .ok (.getfield 12, 3) := by decide +kernel
theorem dX4_carry_135 : decode cX4_carry 135 = .ok (.iload_n 3, 1) := by decide +kernel
theorem dX4_carry_136 : decode cX4_carry 136 = .ok (.iload 4, 2) := by decide +kernel
theorem dX4_carry_138 : decode cX4_carry 138 = .ok (.invokevirtual 65, 3) := by decide +kernel
theorem dX4_carry_141 : decode cX4_carry 141 = .ok (.ireturn, 1) := by decide +kernel
set_option maxRecDepth 20000 in
theorem ggX4_paint_X4_needSquare : GoodIn wsX4_paint wsX4_needSquare := goodIn_ca (goodIn_r _ [6, 7, 8, 1, 9, 10, 11, 12, 13, 14, 15, 16, 17, 18, 84, 85, 86, 87, 88, 89, 90, 91, 92, 93, 94, 95] (by decide +kernel) (by decide +kernel)) (goodIn_sub (fun _ h => List.mem_cons_of_mem _ (List.mem_append_left _ (List.mem_append_left _ (List.mem_append_right _ h)))) (by decide +kernel))
set_option maxRecDepth 20000 in
theorem gX4_paint_X4_needSquare : GoodIn wsX4_paint (wsV RX4 61 RX4 yX4_needSquare wsX4_needSquare) := goodIn_app (goodIn_of _ (by decide +kernel)) ggX4_paint_X4_needSquare
set_option maxRecDepth 20000 in
theorem ggX4_paint_X4_needRange : GoodIn wsX4_paint wsX4_needRange := goodIn_ca (goodIn_r _ [21, 22, 23] (by decide +kernel) (by decide +kernel)) (goodIn_sub (fun _ h => List.mem_cons_of_mem _ (List.mem_append_left _ (List.mem_append_right _ h))) (by decide +kernel))
set_option maxRecDepth 20000 in
theorem gX4_paint_X4_needRange : GoodIn wsX4_paint (va_wsS RX4 50 yX4_needRange wsX4_needRange) := goodIn_app (goodIn_of _ (by decide +kernel)) ggX4_paint_X4_needRange
set_option maxRecDepth 20000 in
theorem ggX4_paint_X4_needBlocks : GoodIn wsX4_paint wsX4_needBlocks := goodIn_ca (goodIn_r _ [27, 28, 29, 1, 30, 31, 32, 12, 33, 34, 14, 15, 16, 17, 18, 35, 5, 36, 84, 85, 86, 87, 88, 89, 90, 91, 92, 93, 94, 95] (by decide +kernel) (by decide +kernel)) (goodIn_sub (fun _ h => List.mem_cons_of_mem _ (List.mem_append_right _ h)) (by decide +kernel))
set_option maxRecDepth 20000 in
theorem gX4_paint_X4_needBlocks : GoodIn wsX4_paint (wsV RX4 79 RX4 yX4_needBlocks wsX4_needBlocks) := goodIn_app (goodIn_of _ (by decide +kernel)) ggX4_paint_X4_needBlocks
set_option maxRecDepth 20000 in
theorem ggX4_paint_X4_saveState : GoodIn wsX4_paint wsX4_saveState := goodIn_r _ [40, 41, 1, 42, 43, 44, 45, 46, 47, 48, 49, 50, 51, 52, 53, 54, 55, 56, 57, 12, 58, 18, 59, 34, 60, 35, 5, 36, 61, 62, 84, 85, 86, 87, 88, 89, 90, 91, 96, 97, 98, 92, 93, 94, 95] (by decide +kernel) (by decide +kernel)
set_option maxRecDepth 20000 in
theorem gX4_paint_X4_saveState : GoodIn wsX4_paint (wsV RX4 54 RX4 yX4_saveState wsX4_saveState) := goodIn_app (goodIn_of _ (by decide +kernel)) ggX4_paint_X4_saveState
set_option maxRecDepth 20000 in
theorem ggX4_paint_X3_topColour : GoodIn wsX4_paint wsX3_topColour := goodIn_r _ [66, 67, 31, 32, 12, 33, 34, 14, 15, 16, 17, 18, 35, 5, 36, 68, 69, 70, 71, 60, 92, 93, 94, 95] (by decide +kernel) (by decide +kernel)
set_option maxRecDepth 20000 in
theorem gX4_paint_X3_topColour : GoodIn wsX4_paint (wsV RX4 82 RX3 yX3_topColour wsX3_topColour) := goodIn_app (goodIn_of _ (by decide +kernel)) ggX4_paint_X3_topColour
set_option maxRecDepth 20000 in
theorem ggX4_paint_X3_removeBlock : GoodIn wsX4_paint wsX3_removeBlock := goodIn_r _ [75, 67, 31, 32, 12, 33, 34, 14, 15, 16, 17, 18, 35, 5, 36, 76, 77, 78, 79, 60, 61, 62, 92, 93, 94, 95] (by decide +kernel) (by decide +kernel)
set_option maxRecDepth 20000 in
theorem gX4_paint_X3_removeBlock : GoodIn wsX4_paint (wsV RX4 85 RX3 yX3_removeBlock wsX3_removeBlock) := goodIn_app (goodIn_of _ (by decide +kernel)) ggX4_paint_X3_removeBlock
set_option maxRecDepth 20000 in
theorem ggX4_paint_X3_addBlock : GoodIn wsX4_paint wsX3_addBlock := goodIn_r _ [83, 34, 60, 14, 15, 16, 12, 17, 18, 35, 5, 36, 61, 62, 92, 93, 94, 95] (by decide +kernel) (by decide +kernel)
set_option maxRecDepth 20000 in
theorem gX4_paint_X3_addBlock : GoodIn wsX4_paint (wsV RX4 76 RX3 yX3_addBlock wsX3_addBlock) := goodIn_app (goodIn_of _ (by decide +kernel)) ggX4_paint_X3_addBlock
theorem dX4_paint_0 : decode cX4_paint 0 = .ok (.aload_n 0, 1) := by decide +kernel
theorem dX4_paint_1 : decode cX4_paint 1 = .ok (.iload_n 1, 1) := by decide +kernel
theorem dX4_paint_2 : decode cX4_paint 2 = .ok (.iload_n 2, 1) := by decide +kernel
theorem dX4_paint_3 : decode cX4_paint 3 = .ok (.invokevirtual 61, 3) := by decide +kernel
theorem dX4_paint_6 : decode cX4_paint 6 = .ok (.iload_n 3, 1) := by decide +kernel
theorem dX4_paint_7 : decode cX4_paint 7 = .ok (.iconst 0, 1) := by decide +kernel
theorem dX4_paint_8 : decode cX4_paint 8 = .ok (.iconst 3, 1) := by decide +kernel
theorem dX4_paint_9 : decode cX4_paint 9 = .ok (.invokestatic 50, 3) := by decide +kernel
theorem dX4_paint_12 : decode cX4_paint 12 = .ok (.aload_n 0, 1) := by decide +kernel
theorem dX4_paint_13 : decode cX4_paint 13 = .ok (.iload_n 1, 1) := by decide +kernel
theorem dX4_paint_14 : decode cX4_paint 14 = .ok (.iload_n 2, 1) := by decide +kernel
theorem dX4_paint_15 : decode cX4_paint 15 = .ok (.invokevirtual 79, 3) := by decide +kernel
theorem dX4_paint_18 : decode cX4_paint 18 = .ok (.aload_n 0, 1) := by decide +kernel
theorem dX4_paint_19 : decode cX4_paint 19 = .ok (.invokevirtual 54, 3) := by decide +kernel
theorem dX4_paint_22 : decode cX4_paint 22 = .ok (.aload_n 0, 1) := by decide +kernel
theorem dX4_paint_23 : decode cX4_paint 23 = .ok (.getfield 12, 3) := by decide +kernel
theorem dX4_paint_26 : decode cX4_paint 26 = .ok (.iload_n 1, 1) := by decide +kernel
theorem dX4_paint_27 : decode cX4_paint 27 = .ok (.iload_n 2, 1) := by decide +kernel
theorem dX4_paint_28 : decode cX4_paint 28 = .ok (.invokevirtual 82, 3) := by decide +kernel
theorem dX4_paint_31 : decode cX4_paint 31 = .ok (.istore 4, 2) := by decide +kernel
theorem dX4_paint_33 : decode cX4_paint 33 = .ok (.aload_n 0, 1) := by decide +kernel
theorem dX4_paint_34 : decode cX4_paint 34 = .ok (.getfield 12, 3) := by decide +kernel
theorem dX4_paint_37 : decode cX4_paint 37 = .ok (.iload_n 1, 1) := by decide +kernel
theorem dX4_paint_38 : decode cX4_paint 38 = .ok (.iload_n 2, 1) := by decide +kernel
theorem dX4_paint_39 : decode cX4_paint 39 = .ok (.invokevirtual 85, 3) := by decide +kernel
theorem dX4_paint_42 : decode cX4_paint 42 = .ok (.aload_n 0, 1) := by decide +kernel
theorem dX4_paint_43 : decode cX4_paint 43 = .ok (.getfield 12, 3) := by decide +kernel
theorem dX4_paint_46 : decode cX4_paint 46 = .ok (.iload_n 1, 1) := by decide +kernel
theorem dX4_paint_47 : decode cX4_paint 47 = .ok (.iload_n 2, 1) := by decide +kernel
theorem dX4_paint_48 : decode cX4_paint 48 = .ok (.iload_n 3, 1) := by decide +kernel
theorem dX4_paint_49 : decode cX4_paint 49 = .ok (.invokevirtual 76, 3) := by decide +kernel
theorem dX4_paint_52 : decode cX4_paint 52 = .ok (.iload 4, 2) := by decide +kernel
theorem dX4_paint_54 : decode cX4_paint 54 = .ok (.ireturn, 1) := by decide +kernel
set_option maxRecDepth 20000 in
theorem ggX4_turn_X4_saveState : GoodIn wsX4_turn wsX4_saveState := goodIn_r _ [7, 8, 2, 9, 10, 11, 12, 13, 14, 15, 16, 17, 18, 19, 20, 21, 22, 23, 24, 25, 26, 27, 28, 29, 30, 31, 6, 32, 33, 34, 113, 114, 115, 116, 117, 118, 119, 120, 127, 128, 129, 130, 131, 132, 133] (by decide +kernel) (by decide +kernel)
set_option maxRecDepth 20000 in
theorem gX4_turn_X4_saveState : GoodIn wsX4_turn (wsV RX4 54 RX4 yX4_saveState wsX4_saveState) := goodIn_app (goodIn_of _ (by decide +kernel)) ggX4_turn_X4_saveState
set_option maxRecDepth 20000 in
theorem ggX4_turn_X3_becomeTurned : GoodIn wsX4_turn wsX3_becomeTurned := goodIn_r _ [38, 27, 28, 29, 30, 39, 40, 41, 25, 42, 43, 44, 45, 46, 47, 48, 49, 50, 31, 6, 32, 33, 34, 130, 131, 132, 133] (by decide +kernel) (by decide +kernel)
set_option maxRecDepth 20000 in
theorem gX4_turn_X3_becomeTurned : GoodIn wsX4_turn (wsV RX4 99 RX3 yX3_becomeTurned wsX3_becomeTurned) := goodIn_app (goodIn_of _ (by decide +kernel)) ggX4_turn_X3_becomeTurned
set_option maxRecDepth 20000 in
theorem ggX4_turn_X3_become : GoodIn wsX4_turn wsX3_become := goodIn_r _ [26, 27, 28, 29, 30, 31, 6, 32, 33, 34, 130, 131, 132, 133] (by decide +kernel) (by decide +kernel)
set_option maxRecDepth 20000 in
theorem gX4_turn_X3_become : GoodIn wsX4_turn (wsV RX4 103 RX3 yX3_become wsX3_become) := goodIn_app (goodIn_of _ (by decide +kernel)) ggX4_turn_X3_become
set_option maxRecDepth 20000 in
theorem ggX4_turn_X4_drawnView : GoodIn wsX4_turn wsX4_drawnView := goodIn_r _ [55, 9, 56, 2, 57, 58, 59, 60, 61, 62, 63, 64, 44, 45, 46, 65, 66, 67, 25, 68, 29, 47, 48, 49, 50, 27, 31, 6, 32, 69, 70, 71, 72, 73, 74, 75, 76, 77, 78, 79, 80, 81, 82, 83, 84, 85, 33, 34, 86, 87, 88, 89, 90, 91, 92, 93, 94, 95, 96, 97, 98, 99, 100, 101, 102, 103, 104, 105, 106, 107, 108, 109, 110, 111, 112, 113, 114, 115, 116, 117, 118, 119, 120, 121, 122, 123, 124, 125, 126, 130, 131, 132, 133] (by decide +kernel) (by decide +kernel)
set_option maxRecDepth 20000 in
theorem gX4_turn_X4_drawnView : GoodIn wsX4_turn (wsV RX4 106 RX4 yX4_drawnView wsX4_drawnView) := goodIn_app (goodIn_of _ (by decide +kernel)) ggX4_turn_X4_drawnView
theorem dX4_turn_0 : decode cX4_turn 0 = .ok (.aload_n 0, 1) := by decide +kernel
theorem dX4_turn_1 : decode cX4_turn 1 = .ok (.invokevirtual 54, 3) := by decide +kernel
theorem dX4_turn_4 : decode cX4_turn 4 = .ok (.aload_n 0, 1) := by decide +kernel
theorem dX4_turn_5 : decode cX4_turn 5 = .ok (.getfield 40, 3) := by decide +kernel
theorem dX4_turn_8 : decode cX4_turn 8 = .ok (.aload_n 0, 1) := by decide +kernel
theorem dX4_turn_9 : decode cX4_turn 9 = .ok (.getfield 12, 3) := by decide +kernel
theorem dX4_turn_12 : decode cX4_turn 12 = .ok (.invokevirtual 99, 3) := by decide +kernel
theorem dX4_turn_15 : decode cX4_turn 15 = .ok (.aload_n 0, 1) := by decide +kernel
theorem dX4_turn_16 : decode cX4_turn 16 = .ok (.getfield 12, 3) := by decide +kernel
theorem dX4_turn_19 : decode cX4_turn 19 = .ok (.aload_n 0, 1) := by decide +kernel
theorem dX4_turn_20 : decode cX4_turn 20 = .ok (.getfield 40, 3) := by decide +kernel
theorem dX4_turn_23 : decode cX4_turn 23 = .ok (.invokevirtual 103, 3) := by decide +kernel
theorem dX4_turn_26 : decode cX4_turn 26 = .ok (.aload_n 0, 1) := by decide +kernel
theorem dX4_turn_27 : decode cX4_turn 27 = .ok (.invokevirtual 106, 3) := by decide +kernel
theorem dX4_turn_30 : decode cX4_turn 30 = .ok (.getfield 110, 3) := by decide +kernel
theorem dX4_turn_33 : decode cX4_turn 33 = .ok (.ireturn, 1) := by decide +kernel
set_option maxRecDepth 20000 in
theorem ggX4_cutOff_X4_needRange : GoodIn wsX4_cutOff wsX4_needRange := goodIn_ca (goodIn_r _ [5, 6, 7] (by decide +kernel) (by decide +kernel)) (goodIn_sub (fun _ h => List.mem_cons_of_mem _ (List.mem_append_right _ h)) (by decide +kernel))
set_option maxRecDepth 20000 in
theorem gX4_cutOff_X4_needRange : GoodIn wsX4_cutOff (va_wsS RX4 50 yX4_needRange wsX4_needRange) := goodIn_app (goodIn_of _ (by decide +kernel)) ggX4_cutOff_X4_needRange
set_option maxRecDepth 20000 in
theorem ggX4_cutOff_X4_saveState : GoodIn wsX4_cutOff wsX4_saveState := goodIn_r _ [11, 12, 1, 13, 14, 15, 16, 17, 18, 19, 20, 21, 22, 23, 24, 25, 26, 27, 28, 29, 30, 31, 32, 33, 34, 35, 4, 36, 37, 38, 63, 64, 65, 66, 67, 68, 69, 70, 75, 76, 77, 71, 72, 73, 74] (by decide +kernel) (by decide +kernel)
set_option maxRecDepth 20000 in
theorem gX4_cutOff_X4_saveState : GoodIn wsX4_cutOff (wsV RX4 54 RX4 yX4_saveState wsX4_saveState) := goodIn_app (goodIn_of _ (by decide +kernel)) ggX4_cutOff_X4_saveState
set_option maxRecDepth 20000 in
theorem ggX4_cutOff_X3_blockCount : GoodIn wsX4_cutOff wsX3_blockCount := goodIn_r _ [42, 31, 43, 44, 45, 29, 46, 47, 48, 49, 50, 51, 52, 53, 54, 33, 55, 56, 57, 58, 35, 4, 36, 71, 72, 73, 74] (by decide +kernel) (by decide +kernel)
set_option maxRecDepth 20000 in
theorem gX4_cutOff_X3_blockCount : GoodIn wsX4_cutOff (wsV RX4 114 RX3 yX3_blockCount wsX3_blockCount) := goodIn_app (goodIn_of _ (by decide +kernel)) ggX4_cutOff_X3_blockCount
set_option maxRecDepth 20000 in
theorem ggX4_cutOff_X3_lowerTo : GoodIn wsX4_cutOff wsX3_lowerTo := goodIn_r _ [62, 33, 34, 55, 56, 57, 29, 58, 31, 35, 4, 36, 37, 38, 71, 72, 73, 74] (by decide +kernel) (by decide +kernel)
set_option maxRecDepth 20000 in
theorem gX4_cutOff_X3_lowerTo : GoodIn wsX4_cutOff (wsV RX4 96 RX3 yX3_lowerTo wsX3_lowerTo) := goodIn_app (goodIn_of _ (by decide +kernel)) ggX4_cutOff_X3_lowerTo
theorem dX4_cutOff_0 : decode cX4_cutOff 0 = .ok (.iload_n 1, 1) := by decide +kernel
theorem dX4_cutOff_1 : decode cX4_cutOff 1 = .ok (.iconst 0, 1) := by decide +kernel
theorem dX4_cutOff_2 : decode cX4_cutOff 2 = .ok (.bipush 8, 2) := by decide +kernel
theorem dX4_cutOff_4 : decode cX4_cutOff 4 = .ok (.invokestatic 50, 3) := by decide +kernel
theorem dX4_cutOff_7 : decode cX4_cutOff 7 = .ok (.aload_n 0, 1) := by decide +kernel
theorem dX4_cutOff_8 : decode cX4_cutOff 8 = .ok (.invokevirtual 54, 3) := by decide +kernel
theorem dX4_cutOff_11 : decode cX4_cutOff 11 = .ok (.aload_n 0, 1) := by decide +kernel
theorem dX4_cutOff_12 : decode cX4_cutOff 12 = .ok (.getfield 12, 3) := by decide +kernel
theorem dX4_cutOff_15 : decode cX4_cutOff 15 = .ok (.invokevirtual 114, 3) := by decide +kernel
theorem dX4_cutOff_18 : decode cX4_cutOff 18 = .ok (.istore_n 2, 1) := by decide +kernel
theorem dX4_cutOff_19 : decode cX4_cutOff 19 = .ok (.iconst 0, 1) := by decide +kernel
theorem dX4_cutOff_20 : decode cX4_cutOff 20 = .ok (.istore_n 3, 1) := by decide +kernel
theorem dX4_cutOff_21 : decode cX4_cutOff 21 = .ok (.iload_n 3, 1) := by decide +kernel
theorem dX4_cutOff_22 : decode cX4_cutOff 22 = .ok (.aload_n 0, 1) := by decide +kernel
theorem dX4_cutOff_23 : decode cX4_cutOff 23 = .ok (.getfield 12, 3) := by decide +kernel
theorem dX4_cutOff_26 : decode cX4_cutOff 26 = .ok (.getfield 118, 3) := by decide +kernel
theorem dX4_cutOff_29 : decode cX4_cutOff 29 = .ok (.if_icmp .ge 41, 3) := by decide +kernel
theorem dX4_cutOff_32 : decode cX4_cutOff 32 = .ok (.iconst 0, 1) := by decide +kernel
theorem dX4_cutOff_33 : decode cX4_cutOff 33 = .ok (.istore 4, 2) := by decide +kernel
theorem dX4_cutOff_35 : decode cX4_cutOff 35 = .ok (.iload 4, 2) := by decide +kernel
theorem dX4_cutOff_37 : decode cX4_cutOff 37 = .ok (.aload_n 0, 1) := by decide +kernel
theorem dX4_cutOff_38 : decode cX4_cutOff 38 = .ok (.getfield 12, 3) := by decide +kernel
theorem dX4_cutOff_41 : decode cX4_cutOff 41 = .ok (.getfield 118, 3) := by decide +kernel
theorem dX4_cutOff_44 : decode cX4_cutOff 44 = .ok (.if_icmp .ge 20, 3) := by decide +kernel
theorem dX4_cutOff_47 : decode cX4_cutOff 47 = .ok (.aload_n 0, 1) := by decide +kernel
theorem dX4_cutOff_48 : decode cX4_cutOff 48 = .ok (.getfield 12, 3) := by decide +kernel
theorem dX4_cutOff_51 : decode cX4_cutOff 51 = .ok (.iload 4, 2) := by decide +kernel
theorem dX4_cutOff_53 : decode cX4_cutOff 53 = .ok (.iload_n 3, 1) := by decide +kernel
theorem dX4_cutOff_54 : decode cX4_cutOff 54 = .ok (.iload_n 1, 1) := by decide +kernel
theorem dX4_cutOff_55 : decode cX4_cutOff 55 = .ok (.invokevirtual 96, 3) := by decide +kernel
theorem dX4_cutOff_58 : decode cX4_cutOff 58 = .ok (.iinc 4 1, 3) := by decide +kernel
theorem dX4_cutOff_61 : decode cX4_cutOff 61 = .ok (.goto (-26), 3) := by decide +kernel
theorem dX4_cutOff_64 : decode cX4_cutOff 64 = .ok (.iinc 3 1, 3) := by decide +kernel
theorem dX4_cutOff_67 : decode cX4_cutOff 67 = .ok (.goto (-46), 3) := by decide +kernel
theorem dX4_cutOff_70 : decode cX4_cutOff 70 = .ok (.iload_n 2, 1) := by decide +kernel
theorem dX4_cutOff_71 : decode cX4_cutOff 71 = .ok (.aload_n 0, 1) := by decide +kernel
theorem dX4_cutOff_72 : decode cX4_cutOff 72 = .ok (.getfield 12, 3) := by decide +kernel
theorem dX4_cutOff_75 : decode cX4_cutOff 75 = .ok (.invokevirtual 114, 3) := by decide +kernel
theorem dX4_cutOff_78 : decode cX4_cutOff 78 = .ok (.isub, 1) := by decide +kernel
theorem dX4_cutOff_79 : decode cX4_cutOff 79 = .ok (.ireturn, 1) := by decide +kernel
set_option maxRecDepth 20000 in
theorem ggX4_hour_X4_needRange : GoodIn wsX4_hour wsX4_needRange := goodIn_ca (goodIn_r _ [5, 6, 7] (by decide +kernel) (by decide +kernel)) (goodIn_sub (fun _ h => List.mem_cons_of_mem _ (List.mem_append_right _ h)) (by decide +kernel))
set_option maxRecDepth 20000 in
theorem gX4_hour_X4_needRange : GoodIn wsX4_hour (va_wsS RX4 50 yX4_needRange wsX4_needRange) := goodIn_app (goodIn_of _ (by decide +kernel)) ggX4_hour_X4_needRange
set_option maxRecDepth 20000 in
theorem ggX4_hour_X4_saveState : GoodIn wsX4_hour wsX4_saveState := goodIn_r _ [11, 12, 1, 13, 14, 15, 16, 17, 18, 19, 20, 21, 22, 23, 24, 25, 26, 27, 28, 29, 30, 31, 32, 33, 34, 35, 4, 36, 37, 38, 39, 40, 41, 42, 43, 44, 45, 46, 51, 52, 53, 47, 48, 49, 50] (by decide +kernel) (by decide +kernel)
set_option maxRecDepth 20000 in
theorem gX4_hour_X4_saveState : GoodIn wsX4_hour (wsV RX4 54 RX4 yX4_saveState wsX4_saveState) := goodIn_app (goodIn_of _ (by decide +kernel)) ggX4_hour_X4_saveState
theorem dX4_hour_0 : decode cX4_hour 0 = .ok (.iload_n 1, 1) := by decide +kernel
theorem dX4_hour_1 : decode cX4_hour 1 = .ok (.iconst 0, 1) := by decide +kernel
theorem dX4_hour_2 : decode cX4_hour 2 = .ok (.bipush 7, 2) := by decide +kernel
theorem dX4_hour_4 : decode cX4_hour 4 = .ok (.invokestatic 50, 3) := by decide +kernel
theorem dX4_hour_7 : decode cX4_hour 7 = .ok (.aload_n 0, 1) := by decide +kernel
theorem dX4_hour_8 : decode cX4_hour 8 = .ok (.invokevirtual 54, 3) := by decide +kernel
theorem dX4_hour_11 : decode cX4_hour 11 = .ok (.aload_n 0, 1) := by decide +kernel
theorem dX4_hour_12 : decode cX4_hour 12 = .ok (.getfield 12, 3) := by decide +kernel
theorem dX4_hour_15 : decode cX4_hour 15 = .ok (.getfield 121, 3) := by decide +kernel
theorem dX4_hour_18 : decode cX4_hour 18 = .ok (.istore_n 2, 1) := by decide +kernel
theorem dX4_hour_19 : decode cX4_hour 19 = .ok (.aload_n 0, 1) := by decide +kernel
theorem dX4_hour_20 : decode cX4_hour 20 = .ok (.getfield 12, 3) := by decide +kernel
theorem dX4_hour_23 : decode cX4_hour 23 = .ok (.iload_n 1, 1) := by decide +kernel
theorem dX4_hour_24 : decode cX4_hour 24 = .ok (.putfield 121, 3) := by decide +kernel
theorem dX4_hour_27 : decode cX4_hour 27 = .ok (.iload_n 2, 1) := by decide +kernel
theorem dX4_hour_28 : decode cX4_hour 28 = .ok (.ireturn, 1) := by decide +kernel
set_option maxRecDepth 20000 in
theorem ggX4_append_X4_needRange : GoodIn wsX4_append wsX4_needRange := goodIn_ca (goodIn_r _ [7, 8, 9] (by decide +kernel) (by decide +kernel)) (goodIn_sub (fun _ h => List.mem_cons_of_mem _ (List.mem_append_right _ h)) (by decide +kernel))
set_option maxRecDepth 20000 in
theorem gX4_append_X4_needRange : GoodIn wsX4_append (va_wsS RX4 50 yX4_needRange wsX4_needRange) := goodIn_app (goodIn_of _ (by decide +kernel)) ggX4_append_X4_needRange
set_option maxRecDepth 20000 in
theorem ggX4_append_X0_addCode : GoodIn wsX4_append wsX0_addCode := goodIn_r _ [14, 15, 16, 17, 6, 18, 27, 28] (by decide +kernel) (by decide +kernel)
set_option maxRecDepth 20000 in
theorem gX4_append_X0_addCode : GoodIn wsX4_append (wsV RX4 129 RX0 yX0_addCode wsX0_addCode) := goodIn_app (goodIn_of _ (by decide +kernel)) ggX4_append_X0_addCode
theorem dX4_append_0 : decode cX4_append 0 = .ok (.iload_n 1, 1) := by decide +kernel
theorem dX4_append_1 : decode cX4_append 1 = .ok (.bipush 33, 2) := by decide +kernel
theorem dX4_append_3 : decode cX4_append 3 = .ok (.bipush 126, 2) := by decide +kernel
theorem dX4_append_5 : decode cX4_append 5 = .ok (.invokestatic 50, 3) := by decide +kernel
theorem dX4_append_8 : decode cX4_append 8 = .ok (.aload_n 0, 1) := by decide +kernel
theorem dX4_append_9 : decode cX4_append 9 = .ok (.getfield 33, 3) := by decide +kernel
theorem dX4_append_12 : decode cX4_append 12 = .ok (.getfield 124, 3) := by decide +kernel
theorem dX4_append_15 : decode cX4_append 15 = .ok (.bipush 60, 2) := by decide +kernel
theorem dX4_append_17 : decode cX4_append 17 = .ok (.if_icmp .lt 13, 3) := by decide +kernel
theorem dX4_append_20 : decode cX4_append 20 = .ok (.new 69, 3) := by decide +kernel
theorem dX4_append_23 : decode cX4_append 23 = .ok (.dup, 1) := by decide +kernel
theorem dX4_append_24 : decode cX4_append 24 = .ok (.ldc 127, 2) := by decide +kernel
theorem dX4_append_26 : decode cX4_append 26 = .ok (.invokespecial 73, 3) := by decide +kernel
theorem dX4_append_29 : decode cX4_append 29 = .ok (.athrow, 1) := by decide +kernel
theorem dX4_append_30 : decode cX4_append 30 = .ok (.aload_n 0, 1) := by decide +kernel
theorem dX4_append_31 : decode cX4_append 31 = .ok (.getfield 33, 3) := by decide +kernel
theorem dX4_append_34 : decode cX4_append 34 = .ok (.iload_n 1, 1) := by decide +kernel
theorem dX4_append_35 : decode cX4_append 35 = .ok (.invokevirtual 129, 3) := by decide +kernel
theorem dX4_append_38 : decode cX4_append 38 = .ok (.aload_n 0, 1) := by decide +kernel
theorem dX4_append_39 : decode cX4_append 39 = .ok (.getfield 33, 3) := by decide +kernel
theorem dX4_append_42 : decode cX4_append 42 = .ok (.getfield 124, 3) := by decide +kernel
theorem dX4_append_45 : decode cX4_append 45 = .ok (.ireturn, 1) := by decide +kernel
theorem dX4_clearBuffer_0 : decode cX4_clearBuffer 0 = .ok (.aload_n 0, 1) := by decide +kernel
theorem dX4_clearBuffer_1 : decode cX4_clearBuffer 1 = .ok (.getfield 33, 3) := by decide +kernel
theorem dX4_clearBuffer_4 : decode cX4_clearBuffer 4 = .ok (.getfield 124, 3) := by decide +kernel
theorem dX4_clearBuffer_7 : decode cX4_clearBuffer 7 = .ok (.istore_n 1, 1) := by decide +kernel
theorem dX4_clearBuffer_8 : decode cX4_clearBuffer 8 = .ok (.aload_n 0, 1) := by decide +kernel
theorem dX4_clearBuffer_9 : decode cX4_clearBuffer 9 = .ok (.getfield 33, 3) := by decide +kernel
theorem dX4_clearBuffer_12 : decode cX4_clearBuffer 12 = .ok (.iconst 0, 1) := by decide +kernel
theorem dX4_clearBuffer_13 : decode cX4_clearBuffer 13 = .ok (.putfield 124, 3) := by decide +kernel
theorem dX4_clearBuffer_16 : decode cX4_clearBuffer 16 = .ok (.iload_n 1, 1) := by decide +kernel
theorem dX4_clearBuffer_17 : decode cX4_clearBuffer 17 = .ok (.ireturn, 1) := by decide +kernel
set_option maxRecDepth 20000 in
theorem ggX4_firstError_X0_errorIndex : GoodIn wsX4_firstError wsX0_errorIndex := goodIn_r _ [6, 7, 8, 9, 10, 5, 11, 12, 13, 14, 15, 16, 17, 18, 19, 20, 21, 30, 31] (by decide +kernel) (by decide +kernel)
set_option maxRecDepth 20000 in
theorem gX4_firstError_X0_errorIndex : GoodIn wsX4_firstError (wsV RX4 132 RX0 yX0_errorIndex wsX0_errorIndex) := goodIn_app (goodIn_of _ (by decide +kernel)) ggX4_firstError_X0_errorIndex
theorem dX4_firstError_0 : decode cX4_firstError 0 = .ok (.aload_n 0, 1) := by decide +kernel
theorem dX4_firstError_1 : decode cX4_firstError 1 = .ok (.getfield 33, 3) := by decide +kernel
theorem dX4_firstError_4 : decode cX4_firstError 4 = .ok (.invokevirtual 132, 3) := by decide +kernel
theorem dX4_firstError_7 : decode cX4_firstError 7 = .ok (.ireturn, 1) := by decide +kernel
set_option maxRecDepth 20000 in
theorem ggX4_build_X0_isComplete : GoodIn wsX4_build wsX0_isComplete := goodIn_r _ [8, 9, 10, 11, 12, 7, 13, 14, 15, 16, 17, 18, 19, 20, 21, 22, 23, 107, 108] (by decide +kernel) (by decide +kernel)
set_option maxRecDepth 20000 in
theorem gX4_build_X0_isComplete : GoodIn wsX4_build (wsV RX4 135 RX0 yX0_isComplete wsX0_isComplete) := goodIn_app (goodIn_of _ (by decide +kernel)) ggX4_build_X0_isComplete
set_option maxRecDepth 20000 in
theorem ggX4_build_X4_saveState : GoodIn wsX4_build wsX4_saveState := goodIn_r _ [27, 28, 29, 30, 31, 32, 33, 34, 35, 36, 37, 38, 39, 40, 41, 42, 43, 44, 45, 46, 47, 48, 49, 50, 51, 15, 16, 17, 52, 53, 99, 100, 101, 102, 103, 104, 105, 106, 109, 110, 111, 112, 113, 114, 115] (by decide +kernel) (by decide +kernel)
set_option maxRecDepth 20000 in
theorem gX4_build_X4_saveState : GoodIn wsX4_build (wsV RX4 54 RX4 yX4_saveState wsX4_saveState) := goodIn_app (goodIn_of _ (by decide +kernel)) ggX4_build_X4_saveState
set_option maxRecDepth 20000 in
theorem ggX4_build_X4_doOrders : GoodIn wsX4_build wsX4_doOrders := goodIn_r _ [57, 3, 58, 59, 60, 7, 61, 9, 10, 11, 12, 13, 14, 15, 16, 17, 62, 63, 64, 65, 29, 66, 67, 68, 69, 70, 71, 72, 46, 73, 74, 75, 76, 77, 48, 78, 79, 80, 81, 82, 83, 84, 85, 86, 50, 87, 88, 89, 90, 51, 52, 53, 91, 92, 93, 94, 95, 96, 97, 98, 99, 100, 101, 102, 103, 104, 105, 106, 107, 108, 112, 113, 114, 115] (by decide +kernel) (by decide +kernel)
set_option maxRecDepth 20000 in
theorem gX4_build_X4_doOrders : GoodIn wsX4_build (wsV RX4 144 RX4 yX4_doOrders wsX4_doOrders) := goodIn_app (goodIn_of _ (by decide +kernel)) ggX4_build_X4_doOrders
theorem dX4_build_0 : decode cX4_build 0 = .ok (.aload_n 0, 1) := by decide +kernel
theorem dX4_build_1 : decode cX4_build 1 = .ok (.getfield 33, 3) := by decide +kernel
theorem dX4_build_4 : decode cX4_build 4 = .ok (.invokevirtual 135, 3) := by decide +kernel
theorem dX4_build_7 : decode cX4_build 7 = .ok (.ifCond .ne 13, 3) := by decide +kernel
theorem dX4_build_10 : decode cX4_build 10 = .ok (.new 139, 3) := by decide +kernel
theorem dX4_build_13 : decode cX4_build 13 = .ok (.dup, 1) := by decide +kernel
theorem dX4_build_14 : decode cX4_build 14 = .ok (.ldc 141, 2) := by decide +kernel
theorem dX4_build_16 : decode cX4_build 16 = .ok (.invokespecial 143, 3) := by decide +kernel
theorem dX4_build_19 : decode cX4_build 19 = .ok (.athrow, 1) := by decide +kernel
theorem dX4_build_20 : decode cX4_build 20 = .ok (.aload_n 0, 1) := by decide +kernel
theorem dX4_build_21 : decode cX4_build 21 = .ok (.invokevirtual 54, 3) := by decide +kernel
theorem dX4_build_24 : decode cX4_build 24 = .ok (.aload_n 0, 1) := by decide +kernel
theorem dX4_build_25 : decode cX4_build 25 = .ok (.invokevirtual 144, 3) := by decide +kernel
theorem dX4_build_28 : decode cX4_build 28 = .ok (.istore_n 1, 1) := by decide +kernel
theorem dX4_build_29 : decode cX4_build 29 = .ok (.aload_n 0, 1) := by decide +kernel
theorem dX4_build_30 : decode cX4_build 30 = .ok (.getfield 33, 3) := by decide +kernel
theorem dX4_build_33 : decode cX4_build 33 = .ok (.iconst 0, 1) := by decide +kernel
theorem dX4_build_34 : decode cX4_build 34 = .ok (.putfield 124, 3) := by decide +kernel
theorem dX4_build_37 : decode cX4_build 37 = .ok (.iload_n 1, 1) := by decide +kernel
theorem dX4_build_38 : decode cX4_build 38 = .ok (.ireturn, 1) := by decide +kernel
set_option maxRecDepth 20000 in
theorem ggX4_undo_X1_restore : GoodIn wsX4_undo wsX1_restore := goodIn_r _ [10, 11, 12, 13, 14, 9, 15, 16, 17, 18, 19, 20, 21, 22, 23, 24, 25, 26, 27, 28, 29, 30, 31, 40, 41, 42, 43, 44, 45, 46] (by decide +kernel) (by decide +kernel)
set_option maxRecDepth 20000 in
theorem gX4_undo_X1_restore : GoodIn wsX4_undo (wsV RX4 150 RX1 yX1_restore wsX1_restore) := goodIn_app (goodIn_of _ (by decide +kernel)) ggX4_undo_X1_restore
theorem dX4_undo_0 : decode cX4_undo 0 = .ok (.aload_n 0, 1) := by decide +kernel
theorem dX4_undo_1 : decode cX4_undo 1 = .ok (.getfield 26, 3) := by decide +kernel
theorem dX4_undo_4 : decode cX4_undo 4 = .ok (.getfield 147, 3) := by decide +kernel
theorem dX4_undo_7 : decode cX4_undo 7 = .ok (.ifCond .ne 13, 3) := by decide +kernel
theorem dX4_undo_10 : decode cX4_undo 10 = .ok (.new 69, 3) := by decide +kernel
theorem dX4_undo_13 : decode cX4_undo 13 = .ok (.dup, 1) := by decide +kernel
theorem dX4_undo_14 : decode cX4_undo 14 = .ok (.ldc 148, 2) := by decide +kernel
theorem dX4_undo_16 : decode cX4_undo 16 = .ok (.invokespecial 73, 3) := by decide +kernel
theorem dX4_undo_19 : decode cX4_undo 19 = .ok (.athrow, 1) := by decide +kernel
theorem dX4_undo_20 : decode cX4_undo 20 = .ok (.aload_n 0, 1) := by decide +kernel
theorem dX4_undo_21 : decode cX4_undo 21 = .ok (.getfield 26, 3) := by decide +kernel
theorem dX4_undo_24 : decode cX4_undo 24 = .ok (.aload_n 0, 1) := by decide +kernel
theorem dX4_undo_25 : decode cX4_undo 25 = .ok (.getfield 12, 3) := by decide +kernel
theorem dX4_undo_28 : decode cX4_undo 28 = .ok (.invokevirtual 150, 3) := by decide +kernel
theorem dX4_undo_31 : decode cX4_undo 31 = .ok (.aload_n 0, 1) := by decide +kernel
theorem dX4_undo_32 : decode cX4_undo 32 = .ok (.iconst 0, 1) := by decide +kernel
theorem dX4_undo_33 : decode cX4_undo 33 = .ok (.putfield 46, 3) := by decide +kernel
theorem dX4_undo_36 : decode cX4_undo 36 = .ok (.aload_n 0, 1) := by decide +kernel
theorem dX4_undo_37 : decode cX4_undo 37 = .ok (.getfield 26, 3) := by decide +kernel
theorem dX4_undo_40 : decode cX4_undo 40 = .ok (.getfield 147, 3) := by decide +kernel
theorem dX4_undo_43 : decode cX4_undo 43 = .ok (.ireturn, 1) := by decide +kernel
set_option maxRecDepth 20000 in
theorem ggX4_stack_X4_needSquare : GoodIn wsX4_stack wsX4_needSquare := goodIn_ca (goodIn_r _ [6, 7, 8, 1, 9, 10, 11, 12, 13, 14, 15, 16, 17, 18, 114, 115, 116, 117, 118, 119, 120, 121, 122, 123, 124, 125] (by decide +kernel) (by decide +kernel)) (goodIn_sub (fun _ h => List.mem_cons_of_mem _ (List.mem_append_left _ (List.mem_append_right _ h))) (by decide +kernel))
set_option maxRecDepth 20000 in
theorem gX4_stack_X4_needSquare : GoodIn wsX4_stack (wsV RX4 61 RX4 yX4_needSquare wsX4_needSquare) := goodIn_app (goodIn_of _ (by decide +kernel)) ggX4_stack_X4_needSquare
set_option maxRecDepth 20000 in
theorem ggX4_stack_X4_needRange : GoodIn wsX4_stack wsX4_needRange := goodIn_ca (goodIn_r _ [21, 22, 23] (by decide +kernel) (by decide +kernel)) (goodIn_sub (fun _ h => List.mem_cons_of_mem _ (List.mem_append_right _ h)) (by decide +kernel))
set_option maxRecDepth 20000 in
theorem gX4_stack_X4_needRange : GoodIn wsX4_stack (va_wsS RX4 50 yX4_needRange wsX4_needRange) := goodIn_app (goodIn_of _ (by decide +kernel)) ggX4_stack_X4_needRange
set_option maxRecDepth 20000 in
theorem ggX4_stack_X3_heightAt : GoodIn wsX4_stack wsX3_heightAt := goodIn_r _ [27, 28, 14, 15, 16, 12, 17, 18, 29, 5, 30, 122, 123, 124, 125] (by decide +kernel) (by decide +kernel)
set_option maxRecDepth 20000 in
theorem gX4_stack_X3_heightAt : GoodIn wsX4_stack (wsV RX4 65 RX3 yX3_heightAt wsX3_heightAt) := goodIn_app (goodIn_of _ (by decide +kernel)) ggX4_stack_X3_heightAt
set_option maxRecDepth 20000 in
theorem ggX4_stack_X3_topColour : GoodIn wsX4_stack wsX3_topColour := goodIn_r _ [34, 35, 25, 26, 12, 27, 28, 14, 15, 16, 17, 18, 29, 5, 30, 36, 37, 38, 39, 40, 122, 123, 124, 125] (by decide +kernel) (by decide +kernel)
set_option maxRecDepth 20000 in
theorem gX4_stack_X3_topColour : GoodIn wsX4_stack (wsV RX4 82 RX3 yX3_topColour wsX3_topColour) := goodIn_app (goodIn_of _ (by decide +kernel)) ggX4_stack_X3_topColour
set_option maxRecDepth 20000 in
theorem ggX4_stack_X3_inShadow : GoodIn wsX4_stack wsX3_inShadow := goodIn_r _ [44, 18, 29, 5, 30, 35, 25, 26, 12, 27, 28, 14, 15, 16, 17, 45, 10, 11, 13, 122, 123, 124, 125] (by decide +kernel) (by decide +kernel)
set_option maxRecDepth 20000 in
theorem gX4_stack_X3_inShadow : GoodIn wsX4_stack (wsV RX4 153 RX3 yX3_inShadow wsX3_inShadow) := goodIn_app (goodIn_of _ (by decide +kernel)) ggX4_stack_X3_inShadow
set_option maxRecDepth 20000 in
theorem ggX4_stack_X4_drawnView : GoodIn wsX4_stack wsX4_drawnView := goodIn_r _ [49, 50, 51, 1, 52, 53, 54, 55, 56, 57, 58, 59, 60, 61, 62, 63, 25, 26, 12, 27, 28, 14, 15, 16, 17, 18, 29, 5, 30, 64, 65, 66, 67, 68, 69, 70, 71, 72, 73, 74, 75, 76, 77, 78, 79, 80, 81, 82, 83, 84, 85, 86, 87, 88, 89, 90, 91, 92, 93, 94, 95, 96, 97, 98, 99, 100, 101, 102, 103, 104, 105, 106, 107, 108, 109, 114, 115, 116, 117, 118, 119, 120, 121, 126, 127, 128, 129, 130, 131, 122, 123, 124, 125] (by decide +kernel) (by decide +kernel)
set_option maxRecDepth 20000 in
theorem gX4_stack_X4_drawnView : GoodIn wsX4_stack (wsV RX4 106 RX4 yX4_drawnView wsX4_drawnView) := goodIn_app (goodIn_of _ (by decide +kernel)) ggX4_stack_X4_drawnView
set_option maxRecDepth 20000 in
theorem ggX4_stack_X2_blocksSeenIn : GoodIn wsX4_stack wsX2_blocksSeenIn := goodIn_r _ [113, 83, 5, 84, 99, 100, 101, 55, 102, 91, 85, 86, 29, 30, 126, 127, 128, 129, 130, 131] (by decide +kernel) (by decide +kernel)
set_option maxRecDepth 20000 in
theorem gX4_stack_X2_blocksSeenIn : GoodIn wsX4_stack (wsV RX4 157 RX2 yX2_blocksSeenIn wsX2_blocksSeenIn) := goodIn_app (goodIn_of _ (by decide +kernel)) ggX4_stack_X2_blocksSeenIn
theorem dX4_stack_0 : decode cX4_stack 0 = .ok (.aload_n 0, 1) := by decide +kernel
theorem dX4_stack_1 : decode cX4_stack 1 = .ok (.iload_n 1, 1) := by decide +kernel
theorem dX4_stack_2 : decode cX4_stack 2 = .ok (.iload_n 2, 1) := by decide +kernel
theorem dX4_stack_3 : decode cX4_stack 3 = .ok (.invokevirtual 61, 3) := by decide +kernel
theorem dX4_stack_6 : decode cX4_stack 6 = .ok (.iload_n 3, 1) := by decide +kernel
theorem dX4_stack_7 : decode cX4_stack 7 = .ok (.iconst 0, 1) := by decide +kernel
theorem dX4_stack_8 : decode cX4_stack 8 = .ok (.iconst 3, 1) := by decide +kernel
theorem dX4_stack_9 : decode cX4_stack 9 = .ok (.invokestatic 50, 3) := by decide +kernel
theorem dX4_stack_12 : decode cX4_stack 12 = .ok (.iload_n 3, 1) := by decide +kernel
theorem dX4_stack_13 : decode cX4_stack 13 = .ok (.tableswitch 72 0 2 #[27, 37, 47], 27) := by decide +kernel
theorem dX4_stack_40 : decode cX4_stack 40 = .ok (.aload_n 0, 1) := by decide +kernel
theorem dX4_stack_41 : decode cX4_stack 41 = .ok (.getfield 12, 3) := by decide +kernel
theorem dX4_stack_44 : decode cX4_stack 44 = .ok (.iload_n 1, 1) := by decide +kernel
theorem dX4_stack_45 : decode cX4_stack 45 = .ok (.iload_n 2, 1) := by decide +kernel
theorem dX4_stack_46 : decode cX4_stack 46 = .ok (.invokevirtual 65, 3) := by decide +kernel
theorem dX4_stack_49 : decode cX4_stack 49 = .ok (.ireturn, 1) := by decide +kernel
theorem dX4_stack_50 : decode cX4_stack 50 = .ok (.aload_n 0, 1) := by decide +kernel
theorem dX4_stack_51 : decode cX4_stack 51 = .ok (.getfield 12, 3) := by decide +kernel
theorem dX4_stack_54 : decode cX4_stack 54 = .ok (.iload_n 1, 1) := by decide +kernel
theorem dX4_stack_55 : decode cX4_stack 55 = .ok (.iload_n 2, 1) := by decide +kernel
theorem dX4_stack_56 : decode cX4_stack 56 = .ok (.invokevirtual 82, 3) := by decide +kernel
theorem dX4_stack_59 : decode cX4_stack 59 = .ok (.ireturn, 1) := by decide +kernel
theorem dX4_stack_60 : decode cX4_stack 60 = .ok (.aload_n 0, 1) := by decide +kernel
theorem dX4_stack_61 : decode cX4_stack 61 = .ok (.getfield 12, 3) := by decide +kernel
theorem dX4_stack_64 : decode cX4_stack 64 = .ok (.iload_n 1, 1) := by decide +kernel
theorem dX4_stack_65 : decode cX4_stack 65 = .ok (.iload_n 2, 1) := by decide +kernel
theorem dX4_stack_66 : decode cX4_stack 66 = .ok (.aload_n 0, 1) := by decide +kernel
theorem dX4_stack_67 : decode cX4_stack 67 = .ok (.getfield 12, 3) := by decide +kernel
theorem dX4_stack_70 : decode cX4_stack 70 = .ok (.getfield 121, 3) := by decide +kernel
theorem dX4_stack_73 : decode cX4_stack 73 = .ok (.invokevirtual 153, 3) := by decide +kernel
theorem dX4_stack_76 : decode cX4_stack 76 = .ok (.ifCond .eq 7, 3) := by decide +kernel
theorem dX4_stack_79 : decode cX4_stack 79 = .ok (.iconst 1, 1) := by decide +kernel
theorem dX4_stack_80 : decode cX4_stack 80 = .ok (.goto 4, 3) := by decide +kernel
theorem dX4_stack_83 : decode cX4_stack 83 = .ok (.iconst 0, 1) := by decide +kernel
theorem dX4_stack_84 : decode cX4_stack 84 = .ok (.ireturn, 1) := by decide +kernel
theorem dX4_stack_85 : decode cX4_stack 85 = .ok (.aload_n 0, 1) := by decide +kernel
theorem dX4_stack_86 : decode cX4_stack 86 = .ok (.invokevirtual 106, 3) := by decide +kernel
theorem dX4_stack_89 : decode cX4_stack 89 = .ok (.iload_n 1, 1) := by decide +kernel
theorem dX4_stack_90 : decode cX4_stack 90 = .ok (.iload_n 2, 1) := by decide +kernel
theorem dX4_stack_91 : decode cX4_stack 91 = .ok (.aload_n 0, 1) := by decide +kernel
theorem dX4_stack_92 : decode cX4_stack 92 = .ok (.getfield 12, 3) := by decide +kernel
theorem dX4_stack_95 : decode cX4_stack 95 = .ok (.iload_n 1, 1) := by decide +kernel
theorem dX4_stack_96 : decode cX4_stack 96 = .ok (.iload_n 2, 1) := by decide +kernel
theorem dX4_stack_97 : decode cX4_stack 97 = .ok (.invokevirtual 65, 3) := by decide +kernel
theorem dX4_stack_100 : decode cX4_stack 100 = .ok (.invokevirtual 157, 3) := by decide +kernel
theorem dX4_stack_103 : decode cX4_stack 103 = .ok (.ireturn, 1) := by decide +kernel
set_option maxRecDepth 20000 in
theorem ggX4_block_X4_needSquare : GoodIn wsX4_block wsX4_needSquare := goodIn_ca (goodIn_r _ [6, 7, 8, 1, 9, 10, 11, 12, 13, 14, 15, 16, 17, 18, 105, 106, 107, 108, 109, 110, 111, 112, 113, 114, 115, 116] (by decide +kernel) (by decide +kernel)) (goodIn_sub (fun _ h => List.mem_cons_of_mem _ (List.mem_append_left _ (List.mem_append_right _ h))) (by decide +kernel))
set_option maxRecDepth 20000 in
theorem gX4_block_X4_needSquare : GoodIn wsX4_block (wsV RX4 61 RX4 yX4_needSquare wsX4_needSquare) := goodIn_app (goodIn_of _ (by decide +kernel)) ggX4_block_X4_needSquare
set_option maxRecDepth 20000 in
theorem ggX4_block_X4_needRange : GoodIn wsX4_block wsX4_needRange := goodIn_ca (goodIn_r _ [21, 22, 23] (by decide +kernel) (by decide +kernel)) (goodIn_sub (fun _ h => List.mem_cons_of_mem _ (List.mem_append_right _ h)) (by decide +kernel))
set_option maxRecDepth 20000 in
theorem gX4_block_X4_needRange : GoodIn wsX4_block (va_wsS RX4 50 yX4_needRange wsX4_needRange) := goodIn_app (goodIn_of _ (by decide +kernel)) ggX4_block_X4_needRange
set_option maxRecDepth 20000 in
theorem ggX4_block_X3_heightAt : GoodIn wsX4_block wsX3_heightAt := goodIn_r _ [27, 28, 14, 15, 16, 12, 17, 18, 29, 5, 30, 113, 114, 115, 116] (by decide +kernel) (by decide +kernel)
set_option maxRecDepth 20000 in
theorem gX4_block_X3_heightAt : GoodIn wsX4_block (wsV RX4 65 RX3 yX3_heightAt wsX3_heightAt) := goodIn_app (goodIn_of _ (by decide +kernel)) ggX4_block_X3_heightAt
set_option maxRecDepth 20000 in
theorem ggX4_block_X3_colourAt : GoodIn wsX4_block wsX3_colourAt := goodIn_r _ [34, 35, 36, 25, 26, 12, 27, 28, 14, 15, 16, 17, 18, 29, 5, 30, 113, 114, 115, 116] (by decide +kernel) (by decide +kernel)
set_option maxRecDepth 20000 in
theorem gX4_block_X3_colourAt : GoodIn wsX4_block (wsV RX4 92 RX3 yX3_colourAt wsX3_colourAt) := goodIn_app (goodIn_of _ (by decide +kernel)) ggX4_block_X3_colourAt
set_option maxRecDepth 20000 in
theorem ggX4_block_X4_blockNumber : GoodIn wsX4_block wsX4_blockNumber := goodIn_r _ [39] (by decide +kernel) (by decide +kernel)
set_option maxRecDepth 20000 in
theorem gX4_block_X4_blockNumber : GoodIn wsX4_block (va_wsS RX4 160 yX4_blockNumber wsX4_blockNumber) := goodIn_app (goodIn_of _ (by decide +kernel)) ggX4_block_X4_blockNumber
set_option maxRecDepth 20000 in
theorem ggX4_block_X4_drawnView : GoodIn wsX4_block wsX4_drawnView := goodIn_r _ [43, 44, 45, 1, 46, 47, 48, 49, 50, 51, 52, 53, 54, 55, 56, 57, 25, 26, 12, 27, 28, 14, 15, 16, 17, 18, 29, 5, 30, 58, 59, 60, 61, 62, 63, 64, 65, 66, 67, 68, 69, 70, 71, 72, 73, 74, 75, 76, 38, 39, 77, 78, 79, 80, 81, 82, 83, 84, 85, 86, 87, 88, 89, 90, 91, 92, 93, 94, 95, 96, 97, 98, 99, 100, 101, 105, 106, 107, 108, 109, 110, 111, 112, 117, 118, 119, 120, 121, 122, 113, 114, 115, 116] (by decide +kernel) (by decide +kernel)
set_option maxRecDepth 20000 in
theorem gX4_block_X4_drawnView : GoodIn wsX4_block (wsV RX4 106 RX4 yX4_drawnView wsX4_drawnView) := goodIn_app (goodIn_of _ (by decide +kernel)) ggX4_block_X4_drawnView
set_option maxRecDepth 20000 in
theorem ggX4_block_X2_trianglesOfBlock : GoodIn wsX4_block wsX2_trianglesOfBlock := goodIn_r _ [94, 83, 77, 5, 78, 29, 30, 117, 118, 119, 120, 121, 122] (by decide +kernel) (by decide +kernel)
set_option maxRecDepth 20000 in
theorem gX4_block_X2_trianglesOfBlock : GoodIn wsX4_block (wsV RX4 163 RX2 yX2_trianglesOfBlock wsX2_trianglesOfBlock) := goodIn_app (goodIn_of _ (by decide +kernel)) ggX4_block_X2_trianglesOfBlock
set_option maxRecDepth 20000 in
theorem ggX4_block_X4_faceNumber : GoodIn wsX4_block wsX4_faceNumber := goodIn_r _ [78] (by decide +kernel) (by decide +kernel)
set_option maxRecDepth 20000 in
theorem gX4_block_X4_faceNumber : GoodIn wsX4_block (va_wsS RX4 167 yX4_faceNumber wsX4_faceNumber) := goodIn_app (goodIn_of _ (by decide +kernel)) ggX4_block_X4_faceNumber
set_option maxRecDepth 20000 in
theorem ggX4_block_X2_trianglesOfFace : GoodIn wsX4_block wsX2_trianglesOfFace := goodIn_r _ [98, 83, 29, 5, 30, 117, 118, 119, 120, 121, 122] (by decide +kernel) (by decide +kernel)
set_option maxRecDepth 20000 in
theorem gX4_block_X2_trianglesOfFace : GoodIn wsX4_block (wsV RX4 170 RX2 yX2_trianglesOfFace wsX2_trianglesOfFace) := goodIn_app (goodIn_of _ (by decide +kernel)) ggX4_block_X2_trianglesOfFace
theorem dX4_block_0 : decode cX4_block 0 = .ok (.aload_n 0, 1) := by decide +kernel
theorem dX4_block_1 : decode cX4_block 1 = .ok (.iload_n 1, 1) := by decide +kernel
theorem dX4_block_2 : decode cX4_block 2 = .ok (.iload_n 2, 1) := by decide +kernel
theorem dX4_block_3 : decode cX4_block 3 = .ok (.invokevirtual 61, 3) := by decide +kernel
theorem dX4_block_6 : decode cX4_block 6 = .ok (.iload_n 3, 1) := by decide +kernel
theorem dX4_block_7 : decode cX4_block 7 = .ok (.iconst 0, 1) := by decide +kernel
theorem dX4_block_8 : decode cX4_block 8 = .ok (.bipush 7, 2) := by decide +kernel
theorem dX4_block_10 : decode cX4_block 10 = .ok (.invokestatic 50, 3) := by decide +kernel
theorem dX4_block_13 : decode cX4_block 13 = .ok (.iload 4, 2) := by decide +kernel
theorem dX4_block_15 : decode cX4_block 15 = .ok (.iconst 0, 1) := by decide +kernel
theorem dX4_block_16 : decode cX4_block 16 = .ok (.iconst 4, 1) := by decide +kernel
theorem dX4_block_17 : decode cX4_block 17 = .ok (.invokestatic 50, 3) := by decide +kernel
theorem dX4_block_20 : decode cX4_block 20 = .ok (.iload_n 3, 1) := by decide +kernel
theorem dX4_block_21 : decode cX4_block 21 = .ok (.aload_n 0, 1) := by decide +kernel
theorem dX4_block_22 : decode cX4_block 22 = .ok (.getfield 12, 3) := by decide +kernel
theorem dX4_block_25 : decode cX4_block 25 = .ok (.iload_n 1, 1) := by decide +kernel
theorem dX4_block_26 : decode cX4_block 26 = .ok (.iload_n 2, 1) := by decide +kernel
theorem dX4_block_27 : decode cX4_block 27 = .ok (.invokevirtual 65, 3) := by decide +kernel
theorem dX4_block_30 : decode cX4_block 30 = .ok (.if_icmp .lt 5, 3) := by decide +kernel
theorem dX4_block_33 : decode cX4_block 33 = .ok (.iconst (-1), 1) := by decide +kernel
theorem dX4_block_34 : decode cX4_block 34 = .ok (.ireturn, 1) := by decide +kernel
theorem dX4_block_35 : decode cX4_block 35 = .ok (.iload 4, 2) := by decide +kernel
theorem dX4_block_37 : decode cX4_block 37 = .ok (.ifCond .ne 14, 3) := by decide +kernel
theorem dX4_block_40 : decode cX4_block 40 = .ok (.aload_n 0, 1) := by decide +kernel
theorem dX4_block_41 : decode cX4_block 41 = .ok (.getfield 12, 3) := by decide +kernel
theorem dX4_block_44 : decode cX4_block 44 = .ok (.iload_n 1, 1) := by decide +kernel
theorem dX4_block_45 : decode cX4_block 45 = .ok (.iload_n 2, 1) := by decide +kernel
theorem dX4_block_46 : decode cX4_block 46 = .ok (.iload_n 3, 1) := by decide +kernel
theorem dX4_block_47 : decode cX4_block 47 = .ok (.invokevirtual 92, 3) := by decide +kernel
theorem dX4_block_50 : decode cX4_block 50 = .ok (.ireturn, 1) := by decide +kernel
theorem dX4_block_51 : decode cX4_block 51 = .ok (.iload_n 1, 1) := by decide +kernel
theorem dX4_block_52 : decode cX4_block 52 = .ok (.iload_n 2, 1) := by decide +kernel
theorem dX4_block_53 : decode cX4_block 53 = .ok (.iload_n 3, 1) := by decide +kernel
theorem dX4_block_54 : decode cX4_block 54 = .ok (.invokestatic 160, 3) := by decide +kernel
theorem dX4_block_57 : decode cX4_block 57 = .ok (.istore 5, 2) := by decide +kernel
theorem dX4_block_59 : decode cX4_block 59 = .ok (.iload 4, 2) := by decide +kernel
theorem dX4_block_61 : decode cX4_block 61 = .ok (.iconst 4, 1) := by decide +kernel
theorem dX4_block_62 : decode cX4_block 62 = .ok (.if_icmp .ne 21, 3) := by decide +kernel
theorem dX4_block_65 : decode cX4_block 65 = .ok (.aload_n 0, 1) := by decide +kernel
theorem dX4_block_66 : decode cX4_block 66 = .ok (.invokevirtual 106, 3) := by decide +kernel
theorem dX4_block_69 : decode cX4_block 69 = .ok (.iload 5, 2) := by decide +kernel
theorem dX4_block_71 : decode cX4_block 71 = .ok (.invokevirtual 163, 3) := by decide +kernel
theorem dX4_block_74 : decode cX4_block 74 = .ok (.ifCond .le 7, 3) := by decide +kernel
theorem dX4_block_77 : decode cX4_block 77 = .ok (.iconst 1, 1) := by decide +kernel
theorem dX4_block_78 : decode cX4_block 78 = .ok (.goto 4, 3) := by decide +kernel
theorem dX4_block_81 : decode cX4_block 81 = .ok (.iconst 0, 1) := by decide +kernel
theorem dX4_block_82 : decode cX4_block 82 = .ok (.ireturn, 1) := by decide +kernel
theorem dX4_block_83 : decode cX4_block 83 = .ok (.aload_n 0, 1) := by decide +kernel
theorem dX4_block_84 : decode cX4_block 84 = .ok (.invokevirtual 106, 3) := by decide +kernel
theorem dX4_block_87 : decode cX4_block 87 = .ok (.iload 5, 2) := by decide +kernel
theorem dX4_block_89 : decode cX4_block 89 = .ok (.iload 4, 2) := by decide +kernel
theorem dX4_block_91 : decode cX4_block 91 = .ok (.iconst 1, 1) := by decide +kernel
theorem dX4_block_92 : decode cX4_block 92 = .ok (.isub, 1) := by decide +kernel
theorem dX4_block_93 : decode cX4_block 93 = .ok (.invokestatic 167, 3) := by decide +kernel
theorem dX4_block_96 : decode cX4_block 96 = .ok (.invokevirtual 170, 3) := by decide +kernel
theorem dX4_block_99 : decode cX4_block 99 = .ok (.ireturn, 1) := by decide +kernel
set_option maxRecDepth 20000 in
theorem ggX4_picture_X4_needRange : GoodIn wsX4_picture wsX4_needRange := goodIn_ca (goodIn_r _ [5, 6, 7] (by decide +kernel) (by decide +kernel)) (goodIn_sub (fun _ h => List.mem_cons_of_mem _ (List.mem_append_right _ h)) (by decide +kernel))
set_option maxRecDepth 20000 in
theorem gX4_picture_X4_needRange : GoodIn wsX4_picture (va_wsS RX4 50 yX4_needRange wsX4_needRange) := goodIn_app (goodIn_of _ (by decide +kernel)) ggX4_picture_X4_needRange
set_option maxRecDepth 20000 in
theorem ggX4_picture_X4_drawnView : GoodIn wsX4_picture wsX4_drawnView := goodIn_r _ [11, 12, 13, 1, 14, 15, 16, 17, 18, 19, 20, 21, 22, 23, 24, 25, 26, 27, 28, 29, 30, 31, 32, 33, 34, 35, 36, 4, 37, 38, 39, 40, 41, 42, 43, 44, 45, 46, 47, 48, 49, 50, 51, 52, 53, 54, 55, 56, 57, 58, 59, 60, 61, 62, 63, 64, 65, 66, 67, 68, 69, 70, 71, 72, 73, 74, 75, 76, 77, 78, 79, 80, 81, 82, 83, 100, 101, 102, 103, 104, 105, 106, 107, 108, 109, 110, 111, 112, 113, 114, 115, 116, 117] (by decide +kernel) (by decide +kernel)
set_option maxRecDepth 20000 in
theorem gX4_picture_X4_drawnView : GoodIn wsX4_picture (wsV RX4 106 RX4 yX4_drawnView wsX4_drawnView) := goodIn_app (goodIn_of _ (by decide +kernel)) ggX4_picture_X4_drawnView
set_option maxRecDepth 20000 in
theorem ggX4_picture_X4_triangleNumber : GoodIn wsX4_picture wsX4_triangleNumber := goodIn_r _ [50] (by decide +kernel) (by decide +kernel)
set_option maxRecDepth 20000 in
theorem gX4_picture_X4_triangleNumber : GoodIn wsX4_picture (va_wsS RX4 173 yX4_triangleNumber wsX4_triangleNumber) := goodIn_app (goodIn_of _ (by decide +kernel)) ggX4_picture_X4_triangleNumber
set_option maxRecDepth 20000 in
theorem ggX4_picture_X2_faceIn : GoodIn wsX4_picture wsX2_faceIn := goodIn_r _ [72, 19, 36, 4, 37, 108, 109, 110, 111, 112, 113] (by decide +kernel) (by decide +kernel)
set_option maxRecDepth 20000 in
theorem gX4_picture_X2_faceIn : GoodIn wsX4_picture (wsV RX4 176 RX2 yX2_faceIn wsX2_faceIn) := goodIn_app (goodIn_of _ (by decide +kernel)) ggX4_picture_X2_faceIn
set_option maxRecDepth 20000 in
theorem ggX4_picture_X4_columnOf : GoodIn wsX4_picture wsX4_columnOf := goodIn_r _ [87] (by decide +kernel) (by decide +kernel)
set_option maxRecDepth 20000 in
theorem gX4_picture_X4_columnOf : GoodIn wsX4_picture (va_wsS RX4 179 yX4_columnOf wsX4_columnOf) := goodIn_app (goodIn_of _ (by decide +kernel)) ggX4_picture_X4_columnOf
set_option maxRecDepth 20000 in
theorem ggX4_picture_X4_rowOf : GoodIn wsX4_picture wsX4_rowOf := goodIn_r _ [90] (by decide +kernel) (by decide +kernel)
set_option maxRecDepth 20000 in
theorem gX4_picture_X4_rowOf : GoodIn wsX4_picture (va_wsS RX4 182 yX4_rowOf wsX4_rowOf) := goodIn_app (goodIn_of _ (by decide +kernel)) ggX4_picture_X4_rowOf
set_option maxRecDepth 20000 in
theorem ggX4_picture_X4_heightOf : GoodIn wsX4_picture wsX4_heightOf := goodIn_r _ [93] (by decide +kernel) (by decide +kernel)
set_option maxRecDepth 20000 in
theorem gX4_picture_X4_heightOf : GoodIn wsX4_picture (va_wsS RX4 185 yX4_heightOf wsX4_heightOf) := goodIn_app (goodIn_of _ (by decide +kernel)) ggX4_picture_X4_heightOf
set_option maxRecDepth 20000 in
theorem ggX4_picture_X3_colourAt : GoodIn wsX4_picture wsX3_colourAt := goodIn_r _ [97, 98, 99, 26, 27, 28, 29, 30, 31, 32, 33, 34, 35, 36, 4, 37, 114, 115, 116, 117] (by decide +kernel) (by decide +kernel)
set_option maxRecDepth 20000 in
theorem gX4_picture_X3_colourAt : GoodIn wsX4_picture (wsV RX4 92 RX3 yX3_colourAt wsX3_colourAt) := goodIn_app (goodIn_of _ (by decide +kernel)) ggX4_picture_X3_colourAt
theorem dX4_picture_0 : decode cX4_picture 0 = .ok (.iload_n 1, 1) := by decide +kernel
theorem dX4_picture_1 : decode cX4_picture 1 = .ok (.bipush (-9), 2) := by decide +kernel
theorem dX4_picture_3 : decode cX4_picture 3 = .ok (.bipush 6, 2) := by decide +kernel
theorem dX4_picture_5 : decode cX4_picture 5 = .ok (.invokestatic 50, 3) := by decide +kernel
theorem dX4_picture_8 : decode cX4_picture 8 = .ok (.iload_n 2, 1) := by decide +kernel
theorem dX4_picture_9 : decode cX4_picture 9 = .ok (.bipush (-9), 2) := by decide +kernel
theorem dX4_picture_11 : decode cX4_picture 11 = .ok (.bipush 6, 2) := by decide +kernel
theorem dX4_picture_13 : decode cX4_picture 13 = .ok (.invokestatic 50, 3) := by decide +kernel
theorem dX4_picture_16 : decode cX4_picture 16 = .ok (.iload_n 3, 1) := by decide +kernel
theorem dX4_picture_17 : decode cX4_picture 17 = .ok (.iconst 0, 1) := by decide +kernel
theorem dX4_picture_18 : decode cX4_picture 18 = .ok (.iconst 1, 1) := by decide +kernel
theorem dX4_picture_19 : decode cX4_picture 19 = .ok (.invokestatic 50, 3) := by decide +kernel
theorem dX4_picture_22 : decode cX4_picture 22 = .ok (.iload 4, 2) := by decide +kernel
theorem dX4_picture_24 : decode cX4_picture 24 = .ok (.iconst 0, 1) := by decide +kernel
theorem dX4_picture_25 : decode cX4_picture 25 = .ok (.iconst 4, 1) := by decide +kernel
theorem dX4_picture_26 : decode cX4_picture 26 = .ok (.invokestatic 50, 3) := by decide +kernel
theorem dX4_picture_29 : decode cX4_picture 29 = .ok (.aload_n 0, 1) := by decide +kernel
theorem dX4_picture_30 : decode cX4_picture 30 = .ok (.invokevirtual 106, 3) := by decide +kernel
theorem dX4_picture_33 : decode cX4_picture 33 = .ok (.iload_n 1, 1) := by decide +kernel
theorem dX4_picture_34 : decode cX4_picture 34 = .ok (.iload_n 2, 1) := by decide +kernel
theorem dX4_picture_35 : decode cX4_picture 35 = .ok (.iload_n 3, 1) := by decide +kernel
theorem dX4_picture_36 : decode cX4_picture 36 = .ok (.invokestatic 173, 3) := by decide +kernel
theorem dX4_picture_39 : decode cX4_picture 39 = .ok (.invokevirtual 176, 3) := by decide +kernel
theorem dX4_picture_42 : decode cX4_picture 42 = .ok (.istore 5, 2) := by decide +kernel
theorem dX4_picture_44 : decode cX4_picture 44 = .ok (.iload 5, 2) := by decide +kernel
theorem dX4_picture_46 : decode cX4_picture 46 = .ok (.iconst (-1), 1) := by decide +kernel
theorem dX4_picture_47 : decode cX4_picture 47 = .ok (.if_icmp .ne 5, 3) := by decide +kernel
theorem dX4_picture_50 : decode cX4_picture 50 = .ok (.iconst (-1), 1) := by decide +kernel
theorem dX4_picture_51 : decode cX4_picture 51 = .ok (.ireturn, 1) := by decide +kernel
theorem dX4_picture_52 : decode cX4_picture 52 = .ok (.iload 5, 2) := by decide +kernel
theorem dX4_picture_54 : decode cX4_picture 54 = .ok (.iconst 3, 1) := by decide +kernel
theorem dX4_picture_55 : decode cX4_picture 55 = .ok (.idiv, 1) := by decide +kernel
theorem dX4_picture_56 : decode cX4_picture 56 = .ok (.istore 6, 2) := by decide +kernel
theorem dX4_picture_58 : decode cX4_picture 58 = .ok (.iload 4, 2) := by decide +kernel
theorem dX4_picture_60 : decode cX4_picture 60 = .ok (.tableswitch 55 0 3 #[32, 38, 44, 50], 32) := by decide +kernel
theorem dX4_picture_92 : decode cX4_picture 92 = .ok (.iload 6, 2) := by decide +kernel
theorem dX4_picture_94 : decode cX4_picture 94 = .ok (.invokestatic 179, 3) := by decide +kernel
theorem dX4_picture_97 : decode cX4_picture 97 = .ok (.ireturn, 1) := by decide +kernel
theorem dX4_picture_98 : decode cX4_picture 98 = .ok (.iload 6, 2) := by decide +kernel
theorem dX4_picture_100 : decode cX4_picture 100 = .ok (.invokestatic 182, 3) := by decide +kernel
theorem dX4_picture_103 : decode cX4_picture 103 = .ok (.ireturn, 1) := by decide +kernel
theorem dX4_picture_104 : decode cX4_picture 104 = .ok (.iload 6, 2) := by decide +kernel
theorem dX4_picture_106 : decode cX4_picture 106 = .ok (.invokestatic 185, 3) := by decide +kernel
theorem dX4_picture_109 : decode cX4_picture 109 = .ok (.ireturn, 1) := by decide +kernel
theorem dX4_picture_110 : decode cX4_picture 110 = .ok (.iload 5, 2) := by decide +kernel
theorem dX4_picture_112 : decode cX4_picture 112 = .ok (.iconst 3, 1) := by decide +kernel
theorem dX4_picture_113 : decode cX4_picture 113 = .ok (.irem, 1) := by decide +kernel
theorem dX4_picture_114 : decode cX4_picture 114 = .ok (.ireturn, 1) := by decide +kernel
theorem dX4_picture_115 : decode cX4_picture 115 = .ok (.aload_n 0, 1) := by decide +kernel
theorem dX4_picture_116 : decode cX4_picture 116 = .ok (.getfield 12, 3) := by decide +kernel
theorem dX4_picture_119 : decode cX4_picture 119 = .ok (.iload 6, 2) := by decide +kernel
theorem dX4_picture_121 : decode cX4_picture 121 = .ok (.invokestatic 179, 3) := by decide +kernel
theorem dX4_picture_124 : decode cX4_picture 124 = .ok (.iload 6, 2) := by decide +kernel
theorem dX4_picture_126 : decode cX4_picture 126 = .ok (.invokestatic 182, 3) := by decide +kernel
theorem dX4_picture_129 : decode cX4_picture 129 = .ok (.iload 6, 2) := by decide +kernel
theorem dX4_picture_131 : decode cX4_picture 131 = .ok (.invokestatic 185, 3) := by decide +kernel
theorem dX4_picture_134 : decode cX4_picture 134 = .ok (.invokevirtual 92, 3) := by decide +kernel
theorem dX4_picture_137 : decode cX4_picture 137 = .ok (.ireturn, 1) := by decide +kernel
set_option maxRecDepth 20000 in
theorem ggX4_elevation_X4_needLine : GoodIn wsX4_elevation wsX4_needLine := goodIn_ca (goodIn_r _ [6, 7, 8, 1, 47, 48, 49, 50, 51, 52, 53, 54, 55, 56, 57, 58] (by decide +kernel) (by decide +kernel)) (goodIn_sub (fun _ h => List.mem_cons_of_mem _ (List.mem_append_left _ (List.mem_append_right _ h))) (by decide +kernel))
set_option maxRecDepth 20000 in
theorem gX4_elevation_X4_needLine : GoodIn wsX4_elevation (wsV RX4 188 RX4 yX4_needLine wsX4_needLine) := goodIn_app (goodIn_of _ (by decide +kernel)) ggX4_elevation_X4_needLine
set_option maxRecDepth 20000 in
theorem ggX4_elevation_X4_needRange : GoodIn wsX4_elevation wsX4_needRange := goodIn_ca (goodIn_r _ [11, 12, 13] (by decide +kernel) (by decide +kernel)) (goodIn_sub (fun _ h => List.mem_cons_of_mem _ (List.mem_append_right _ h)) (by decide +kernel))
set_option maxRecDepth 20000 in
theorem gX4_elevation_X4_needRange : GoodIn wsX4_elevation (va_wsS RX4 50 yX4_needRange wsX4_needRange) := goodIn_app (goodIn_of _ (by decide +kernel)) ggX4_elevation_X4_needRange
set_option maxRecDepth 20000 in
theorem ggX4_elevation_X3_greatestIn : GoodIn wsX4_elevation wsX3_greatestIn := goodIn_r _ [18, 19, 20, 21, 22, 23, 24, 25, 26, 17, 27, 28, 29, 30, 31, 32, 33, 34, 35, 36, 37, 5, 38, 55, 56, 57, 58] (by decide +kernel) (by decide +kernel)
set_option maxRecDepth 20000 in
theorem gX4_elevation_X3_greatestIn : GoodIn wsX4_elevation (wsV RX4 191 RX3 yX3_greatestIn wsX3_greatestIn) := goodIn_app (goodIn_of _ (by decide +kernel)) ggX4_elevation_X3_greatestIn
set_option maxRecDepth 20000 in
theorem ggX4_elevation_X3_stacksWith : GoodIn wsX4_elevation wsX3_stacksWith := goodIn_r _ [42, 19, 24, 25, 26, 17, 27, 28, 29, 30, 31, 32, 33, 34, 35, 36, 37, 5, 38, 55, 56, 57, 58] (by decide +kernel) (by decide +kernel)
set_option maxRecDepth 20000 in
theorem gX4_elevation_X3_stacksWith : GoodIn wsX4_elevation (wsV RX4 194 RX3 yX3_stacksWith wsX3_stacksWith) := goodIn_app (goodIn_of _ (by decide +kernel)) ggX4_elevation_X3_stacksWith
set_option maxRecDepth 20000 in
theorem ggX4_elevation_X3_blocksIn : GoodIn wsX4_elevation wsX3_blocksIn := goodIn_r _ [46, 19, 24, 25, 26, 17, 27, 28, 29, 30, 31, 32, 33, 34, 35, 36, 37, 5, 38, 55, 56, 57, 58] (by decide +kernel) (by decide +kernel)
set_option maxRecDepth 20000 in
theorem gX4_elevation_X3_blocksIn : GoodIn wsX4_elevation (wsV RX4 197 RX3 yX3_blocksIn wsX3_blocksIn) := goodIn_app (goodIn_of _ (by decide +kernel)) ggX4_elevation_X3_blocksIn
theorem dX4_elevation_0 : decode cX4_elevation 0 = .ok (.aload_n 0, 1) := by decide +kernel
theorem dX4_elevation_1 : decode cX4_elevation 1 = .ok (.iload_n 2, 1) := by decide +kernel
theorem dX4_elevation_2 : decode cX4_elevation 2 = .ok (.invokevirtual 188, 3) := by decide +kernel
theorem dX4_elevation_5 : decode cX4_elevation 5 = .ok (.iload_n 1, 1) := by decide +kernel
theorem dX4_elevation_6 : decode cX4_elevation 6 = .ok (.iconst 0, 1) := by decide +kernel
theorem dX4_elevation_7 : decode cX4_elevation 7 = .ok (.iconst 1, 1) := by decide +kernel
theorem dX4_elevation_8 : decode cX4_elevation 8 = .ok (.invokestatic 50, 3) := by decide +kernel
theorem dX4_elevation_11 : decode cX4_elevation 11 = .ok (.iload_n 3, 1) := by decide +kernel
theorem dX4_elevation_12 : decode cX4_elevation 12 = .ok (.iconst 0, 1) := by decide +kernel
theorem dX4_elevation_13 : decode cX4_elevation 13 = .ok (.iconst 2, 1) := by decide +kernel
theorem dX4_elevation_14 : decode cX4_elevation 14 = .ok (.invokestatic 50, 3) := by decide +kernel
theorem dX4_elevation_17 : decode cX4_elevation 17 = .ok (.iload_n 3, 1) := by decide +kernel
theorem dX4_elevation_18 : decode cX4_elevation 18 = .ok (.lookupswitch 55 #[(0, 26), (1, 36)], 26) := by decide +kernel
theorem dX4_elevation_44 : decode cX4_elevation 44 = .ok (.aload_n 0, 1) := by decide +kernel
theorem dX4_elevation_45 : decode cX4_elevation 45 = .ok (.getfield 12, 3) := by decide +kernel
theorem dX4_elevation_48 : decode cX4_elevation 48 = .ok (.iload_n 1, 1) := by decide +kernel
theorem dX4_elevation_49 : decode cX4_elevation 49 = .ok (.iload_n 2, 1) := by decide +kernel
theorem dX4_elevation_50 : decode cX4_elevation 50 = .ok (.invokevirtual 191, 3) := by decide +kernel
theorem dX4_elevation_53 : decode cX4_elevation 53 = .ok (.ireturn, 1) := by decide +kernel
theorem dX4_elevation_54 : decode cX4_elevation 54 = .ok (.aload_n 0, 1) := by decide +kernel
theorem dX4_elevation_55 : decode cX4_elevation 55 = .ok (.getfield 12, 3) := by decide +kernel
theorem dX4_elevation_58 : decode cX4_elevation 58 = .ok (.iload_n 1, 1) := by decide +kernel
theorem dX4_elevation_59 : decode cX4_elevation 59 = .ok (.iload_n 2, 1) := by decide +kernel
theorem dX4_elevation_60 : decode cX4_elevation 60 = .ok (.aload_n 0, 1) := by decide +kernel
theorem dX4_elevation_61 : decode cX4_elevation 61 = .ok (.getfield 12, 3) := by decide +kernel
theorem dX4_elevation_64 : decode cX4_elevation 64 = .ok (.iload_n 1, 1) := by decide +kernel
theorem dX4_elevation_65 : decode cX4_elevation 65 = .ok (.iload_n 2, 1) := by decide +kernel
theorem dX4_elevation_66 : decode cX4_elevation 66 = .ok (.invokevirtual 191, 3) := by decide +kernel
theorem dX4_elevation_69 : decode cX4_elevation 69 = .ok (.invokevirtual 194, 3) := by decide +kernel
theorem dX4_elevation_72 : decode cX4_elevation 72 = .ok (.ireturn, 1) := by decide +kernel
theorem dX4_elevation_73 : decode cX4_elevation 73 = .ok (.aload_n 0, 1) := by decide +kernel
theorem dX4_elevation_74 : decode cX4_elevation 74 = .ok (.getfield 12, 3) := by decide +kernel
theorem dX4_elevation_77 : decode cX4_elevation 77 = .ok (.iload_n 1, 1) := by decide +kernel
theorem dX4_elevation_78 : decode cX4_elevation 78 = .ok (.iload_n 2, 1) := by decide +kernel
theorem dX4_elevation_79 : decode cX4_elevation 79 = .ok (.invokevirtual 197, 3) := by decide +kernel
theorem dX4_elevation_82 : decode cX4_elevation 82 = .ok (.ireturn, 1) := by decide +kernel
set_option maxRecDepth 20000 in
theorem ggX4_cut_X4_needLine : GoodIn wsX4_cut wsX4_needLine := goodIn_ca (goodIn_r _ [6, 7, 8, 1, 27, 28, 29, 30, 31, 32, 33, 34, 35, 36, 37, 38] (by decide +kernel) (by decide +kernel)) (goodIn_sub (fun _ h => List.mem_cons_of_mem _ (List.mem_append_left _ (List.mem_append_right _ h))) (by decide +kernel))
set_option maxRecDepth 20000 in
theorem gX4_cut_X4_needLine : GoodIn wsX4_cut (wsV RX4 188 RX4 yX4_needLine wsX4_needLine) := goodIn_app (goodIn_of _ (by decide +kernel)) ggX4_cut_X4_needLine
set_option maxRecDepth 20000 in
theorem ggX4_cut_X4_needRange : GoodIn wsX4_cut wsX4_needRange := goodIn_ca (goodIn_r _ [11, 12, 13] (by decide +kernel) (by decide +kernel)) (goodIn_sub (fun _ h => List.mem_cons_of_mem _ (List.mem_append_right _ h)) (by decide +kernel))
set_option maxRecDepth 20000 in
theorem gX4_cut_X4_needRange : GoodIn wsX4_cut (va_wsS RX4 50 yX4_needRange wsX4_needRange) := goodIn_app (goodIn_of _ (by decide +kernel)) ggX4_cut_X4_needRange
set_option maxRecDepth 20000 in
theorem ggX4_cut_X3_heightAt : GoodIn wsX4_cut wsX3_heightAt := goodIn_r _ [18, 19, 20, 21, 22, 17, 23, 24, 25, 5, 26, 35, 36, 37, 38] (by decide +kernel) (by decide +kernel)
set_option maxRecDepth 20000 in
theorem gX4_cut_X3_heightAt : GoodIn wsX4_cut (wsV RX4 65 RX3 yX3_heightAt wsX3_heightAt) := goodIn_app (goodIn_of _ (by decide +kernel)) ggX4_cut_X3_heightAt
theorem dX4_cut_0 : decode cX4_cut 0 = .ok (.aload_n 0, 1) := by decide +kernel
theorem dX4_cut_1 : decode cX4_cut 1 = .ok (.iload_n 2, 1) := by decide +kernel
theorem dX4_cut_2 : decode cX4_cut 2 = .ok (.invokevirtual 188, 3) := by decide +kernel
theorem dX4_cut_5 : decode cX4_cut 5 = .ok (.iload_n 1, 1) := by decide +kernel
theorem dX4_cut_6 : decode cX4_cut 6 = .ok (.iconst 0, 1) := by decide +kernel
theorem dX4_cut_7 : decode cX4_cut 7 = .ok (.bipush 7, 2) := by decide +kernel
theorem dX4_cut_9 : decode cX4_cut 9 = .ok (.invokestatic 50, 3) := by decide +kernel
theorem dX4_cut_12 : decode cX4_cut 12 = .ok (.iconst 0, 1) := by decide +kernel
theorem dX4_cut_13 : decode cX4_cut 13 = .ok (.istore_n 3, 1) := by decide +kernel
theorem dX4_cut_14 : decode cX4_cut 14 = .ok (.iconst 0, 1) := by decide +kernel
theorem dX4_cut_15 : decode cX4_cut 15 = .ok (.istore 4, 2) := by decide +kernel
theorem dX4_cut_17 : decode cX4_cut 17 = .ok (.iload 4, 2) := by decide +kernel
theorem dX4_cut_19 : decode cX4_cut 19 = .ok (.aload_n 0, 1) := by decide +kernel
theorem dX4_cut_20 : decode cX4_cut 20 = .ok (.getfield 12, 3) := by decide +kernel
theorem dX4_cut_23 : decode cX4_cut 23 = .ok (.getfield 118, 3) := by decide +kernel
theorem dX4_cut_26 : decode cX4_cut 26 = .ok (.if_icmp .ge 30, 3) := by decide +kernel
theorem dX4_cut_29 : decode cX4_cut 29 = .ok (.aload_n 0, 1) := by decide +kernel
theorem dX4_cut_30 : decode cX4_cut 30 = .ok (.getfield 12, 3) := by decide +kernel
theorem dX4_cut_33 : decode cX4_cut 33 = .ok (.iload 4, 2) := by decide +kernel
theorem dX4_cut_35 : decode cX4_cut 35 = .ok (.iload_n 2, 1) := by decide +kernel
theorem dX4_cut_36 : decode cX4_cut 36 = .ok (.invokevirtual 65, 3) := by decide +kernel
theorem dX4_cut_39 : decode cX4_cut 39 = .ok (.iload_n 1, 1) := by decide +kernel
theorem dX4_cut_40 : decode cX4_cut 40 = .ok (.if_icmp .le 10, 3) := by decide +kernel
theorem dX4_cut_43 : decode cX4_cut 43 = .ok (.iload_n 3, 1) := by decide +kernel
theorem dX4_cut_44 : decode cX4_cut 44 = .ok (.iconst 1, 1) := by decide +kernel
theorem dX4_cut_45 : decode cX4_cut 45 = .ok (.iload 4, 2) := by decide +kernel
theorem dX4_cut_47 : decode cX4_cut 47 = .ok (.ishl, 1) := by decide +kernel
theorem dX4_cut_48 : decode cX4_cut 48 = .ok (.ior, 1) := by decide +kernel
theorem dX4_cut_49 : decode cX4_cut 49 = .ok (.istore_n 3, 1) := by decide +kernel
theorem dX4_cut_50 : decode cX4_cut 50 = .ok (.iinc 4 1, 3) := by decide +kernel
theorem dX4_cut_53 : decode cX4_cut 53 = .ok (.goto (-36), 3) := by decide +kernel
theorem dX4_cut_56 : decode cX4_cut 56 = .ok (.iload_n 3, 1) := by decide +kernel
theorem dX4_cut_57 : decode cX4_cut 57 = .ok (.ireturn, 1) := by decide +kernel
set_option maxRecDepth 20000 in
theorem ggX4_count_X4_needRange : GoodIn wsX4_count wsX4_needRange := goodIn_ca (goodIn_r _ [6, 7, 8] (by decide +kernel) (by decide +kernel)) (goodIn_sub (fun _ h => List.mem_cons_of_mem _ (List.mem_append_right _ h)) (by decide +kernel))
set_option maxRecDepth 20000 in
theorem gX4_count_X4_needRange : GoodIn wsX4_count (va_wsS RX4 50 yX4_needRange wsX4_needRange) := goodIn_app (goodIn_of _ (by decide +kernel)) ggX4_count_X4_needRange
set_option maxRecDepth 20000 in
theorem ggX4_count_X3_blockCount : GoodIn wsX4_count wsX3_blockCount := goodIn_r _ [13, 14, 15, 16, 17, 12, 18, 19, 20, 21, 22, 23, 24, 25, 26, 27, 28, 29, 30, 31, 32, 5, 33, 145, 146, 147, 148] (by decide +kernel) (by decide +kernel)
set_option maxRecDepth 20000 in
theorem gX4_count_X3_blockCount : GoodIn wsX4_count (wsV RX4 114 RX3 yX3_blockCount wsX3_blockCount) := goodIn_app (goodIn_of _ (by decide +kernel)) ggX4_count_X3_blockCount
set_option maxRecDepth 20000 in
theorem ggX4_count_X4_drawnView : GoodIn wsX4_count wsX4_drawnView := goodIn_r _ [37, 38, 39, 1, 40, 41, 42, 43, 44, 45, 46, 47, 48, 49, 50, 51, 24, 25, 12, 26, 27, 28, 29, 30, 31, 14, 32, 5, 33, 52, 53, 54, 55, 56, 57, 58, 59, 60, 61, 62, 63, 64, 65, 66, 67, 68, 69, 70, 71, 72, 73, 74, 75, 76, 77, 78, 79, 80, 81, 82, 83, 84, 85, 86, 87, 88, 89, 90, 91, 92, 93, 94, 95, 96, 97, 137, 138, 139, 140, 141, 142, 143, 144, 149, 150, 151, 152, 153, 154, 145, 146, 147, 148] (by decide +kernel) (by decide +kernel)
set_option maxRecDepth 20000 in
theorem gX4_count_X4_drawnView : GoodIn wsX4_count (wsV RX4 106 RX4 yX4_drawnView wsX4_drawnView) := goodIn_app (goodIn_of _ (by decide +kernel)) ggX4_count_X4_drawnView
set_option maxRecDepth 20000 in
theorem ggX4_count_X3_shadowCount : GoodIn wsX4_count wsX3_shadowCount := goodIn_r _ [101, 14, 102, 103, 104, 12, 105, 32, 5, 33, 23, 24, 25, 26, 27, 28, 29, 30, 31, 106, 107, 108, 109, 145, 146, 147, 148] (by decide +kernel) (by decide +kernel)
set_option maxRecDepth 20000 in
theorem gX4_count_X3_shadowCount : GoodIn wsX4_count (wsV RX4 206 RX3 yX3_shadowCount wsX3_shadowCount) := goodIn_app (goodIn_of _ (by decide +kernel)) ggX4_count_X3_shadowCount
set_option maxRecDepth 20000 in
theorem ggX4_count_X3_greatestHeight : GoodIn wsX4_count wsX3_greatestHeight := goodIn_r _ [113, 14, 114, 115, 116, 117, 118, 119, 120, 12, 121, 19, 20, 21, 22, 23, 24, 25, 26, 27, 28, 29, 30, 31, 32, 5, 33, 145, 146, 147, 148] (by decide +kernel) (by decide +kernel)
set_option maxRecDepth 20000 in
theorem gX4_count_X3_greatestHeight : GoodIn wsX4_count (wsV RX4 209 RX3 yX3_greatestHeight wsX3_greatestHeight) := goodIn_app (goodIn_of _ (by decide +kernel)) ggX4_count_X3_greatestHeight
set_option maxRecDepth 20000 in
theorem ggX4_count_X2_trianglesOfColour : GoodIn wsX4_count wsX2_trianglesOfColour := goodIn_r _ [125, 83, 84, 85, 43, 86, 45, 32, 5, 33, 126, 127, 128, 129, 130, 131, 132, 133, 134, 12, 135, 136, 23, 24, 25, 26, 27, 28, 29, 30, 31, 14, 149, 150, 151, 152, 153, 154, 145, 146, 147, 148] (by decide +kernel) (by decide +kernel)
set_option maxRecDepth 20000 in
theorem gX4_count_X2_trianglesOfColour : GoodIn wsX4_count (wsV RX4 212 RX2 yX2_trianglesOfColour wsX2_trianglesOfColour) := goodIn_app (goodIn_of _ (by decide +kernel)) ggX4_count_X2_trianglesOfColour
theorem dX4_count_0 : decode cX4_count 0 = .ok (.iload_n 1, 1) := by decide +kernel
theorem dX4_count_1 : decode cX4_count 1 = .ok (.iconst 0, 1) := by decide +kernel
theorem dX4_count_2 : decode cX4_count 2 = .ok (.bipush 12, 2) := by decide +kernel
theorem dX4_count_4 : decode cX4_count 4 = .ok (.invokestatic 50, 3) := by decide +kernel
theorem dX4_count_7 : decode cX4_count 7 = .ok (.iload_n 1, 1) := by decide +kernel
theorem dX4_count_8 : decode cX4_count 8 = .ok (.tableswitch 147 0 12 #[68, 76, 84, 92, 100, 147, 147, 147, 147, 108, 123, 131, 139], 68) := by decide +kernel
theorem dX4_count_76 : decode cX4_count 76 = .ok (.aload_n 0, 1) := by decide +kernel
theorem dX4_count_77 : decode cX4_count 77 = .ok (.getfield 12, 3) := by decide +kernel
theorem dX4_count_80 : decode cX4_count 80 = .ok (.getfield 118, 3) := by decide +kernel
theorem dX4_count_83 : decode cX4_count 83 = .ok (.ireturn, 1) := by decide +kernel
theorem dX4_count_84 : decode cX4_count 84 = .ok (.aload_n 0, 1) := by decide +kernel
theorem dX4_count_85 : decode cX4_count 85 = .ok (.getfield 12, 3) := by decide +kernel
theorem dX4_count_88 : decode cX4_count 88 = .ok (.invokevirtual 114, 3) := by decide +kernel
theorem dX4_count_91 : decode cX4_count 91 = .ok (.ireturn, 1) := by decide +kernel
theorem dX4_count_92 : decode cX4_count 92 = .ok (.aload_n 0, 1) := by decide +kernel
theorem dX4_count_93 : decode cX4_count 93 = .ok (.invokevirtual 106, 3) := by decide +kernel
theorem dX4_count_96 : decode cX4_count 96 = .ok (.getfield 110, 3) := by decide +kernel
theorem dX4_count_99 : decode cX4_count 99 = .ok (.ireturn, 1) := by decide +kernel
theorem dX4_count_100 : decode cX4_count 100 = .ok (.aload_n 0, 1) := by decide +kernel
theorem dX4_count_101 : decode cX4_count 101 = .ok (.invokevirtual 106, 3) := by decide +kernel
theorem dX4_count_104 : decode cX4_count 104 = .ok (.getfield 200, 3) := by decide +kernel
theorem dX4_count_107 : decode cX4_count 107 = .ok (.ireturn, 1) := by decide +kernel
theorem dX4_count_108 : decode cX4_count 108 = .ok (.aload_n 0, 1) := by decide +kernel
theorem dX4_count_109 : decode cX4_count 109 = .ok (.invokevirtual 106, 3) := by decide +kernel
theorem dX4_count_112 : decode cX4_count 112 = .ok (.getfield 203, 3) := by decide +kernel
theorem dX4_count_115 : decode cX4_count 115 = .ok (.ireturn, 1) := by decide +kernel
theorem dX4_count_116 : decode cX4_count 116 = .ok (.aload_n 0, 1) := by decide +kernel
theorem dX4_count_117 : decode cX4_count 117 = .ok (.getfield 12, 3) := by decide +kernel
theorem dX4_count_120 : decode cX4_count 120 = .ok (.aload_n 0, 1) := by decide +kernel
theorem dX4_count_121 : decode cX4_count 121 = .ok (.getfield 12, 3) := by decide +kernel
theorem dX4_count_124 : decode cX4_count 124 = .ok (.getfield 121, 3) := by decide +kernel
theorem dX4_count_127 : decode cX4_count 127 = .ok (.invokevirtual 206, 3) := by decide +kernel
theorem dX4_count_130 : decode cX4_count 130 = .ok (.ireturn, 1) := by decide +kernel
theorem dX4_count_131 : decode cX4_count 131 = .ok (.aload_n 0, 1) := by decide +kernel
theorem dX4_count_132 : decode cX4_count 132 = .ok (.getfield 12, 3) := by decide +kernel
theorem dX4_count_135 : decode cX4_count 135 = .ok (.invokevirtual 209, 3) := by decide +kernel
theorem dX4_count_138 : decode cX4_count 138 = .ok (.ireturn, 1) := by decide +kernel
theorem dX4_count_139 : decode cX4_count 139 = .ok (.aload_n 0, 1) := by decide +kernel
theorem dX4_count_140 : decode cX4_count 140 = .ok (.getfield 12, 3) := by decide +kernel
theorem dX4_count_143 : decode cX4_count 143 = .ok (.getfield 121, 3) := by decide +kernel
theorem dX4_count_146 : decode cX4_count 146 = .ok (.ireturn, 1) := by decide +kernel
theorem dX4_count_147 : decode cX4_count 147 = .ok (.aload_n 0, 1) := by decide +kernel
theorem dX4_count_148 : decode cX4_count 148 = .ok (.getfield 26, 3) := by decide +kernel
theorem dX4_count_151 : decode cX4_count 151 = .ok (.getfield 147, 3) := by decide +kernel
theorem dX4_count_154 : decode cX4_count 154 = .ok (.ireturn, 1) := by decide +kernel
theorem dX4_count_155 : decode cX4_count 155 = .ok (.aload_n 0, 1) := by decide +kernel
theorem dX4_count_156 : decode cX4_count 156 = .ok (.invokevirtual 106, 3) := by decide +kernel
theorem dX4_count_159 : decode cX4_count 159 = .ok (.aload_n 0, 1) := by decide +kernel
theorem dX4_count_160 : decode cX4_count 160 = .ok (.getfield 12, 3) := by decide +kernel
theorem dX4_count_163 : decode cX4_count 163 = .ok (.iload_n 1, 1) := by decide +kernel
theorem dX4_count_164 : decode cX4_count 164 = .ok (.iconst 5, 1) := by decide +kernel
theorem dX4_count_165 : decode cX4_count 165 = .ok (.isub, 1) := by decide +kernel
theorem dX4_count_166 : decode cX4_count 166 = .ok (.invokevirtual 212, 3) := by decide +kernel
theorem dX4_count_169 : decode cX4_count 169 = .ok (.ireturn, 1) := by decide +kernel
set_option maxRecDepth 20000 in
theorem ggX4_ifPut_X4_needSquare : GoodIn wsX4_ifPut wsX4_needSquare := goodIn_ca (goodIn_r _ [7, 8, 9, 1, 10, 11, 12, 13, 14, 15, 16, 17, 18, 19, 133, 134, 135, 136, 137, 138, 139, 140, 141, 142, 143, 144] (by decide +kernel) (by decide +kernel)) (goodIn_sub (fun _ h => List.mem_cons_of_mem _ (List.mem_append_left _ (List.mem_append_right _ h))) (by decide +kernel))
set_option maxRecDepth 20000 in
theorem gX4_ifPut_X4_needSquare : GoodIn wsX4_ifPut (wsV RX4 61 RX4 yX4_needSquare wsX4_needSquare) := goodIn_app (goodIn_of _ (by decide +kernel)) ggX4_ifPut_X4_needSquare
set_option maxRecDepth 20000 in
theorem ggX4_ifPut_X4_needRange : GoodIn wsX4_ifPut wsX4_needRange := goodIn_ca (goodIn_r _ [22, 23, 24] (by decide +kernel) (by decide +kernel)) (goodIn_sub (fun _ h => List.mem_cons_of_mem _ (List.mem_append_right _ h)) (by decide +kernel))
set_option maxRecDepth 20000 in
theorem gX4_ifPut_X4_needRange : GoodIn wsX4_ifPut (va_wsS RX4 50 yX4_needRange wsX4_needRange) := goodIn_app (goodIn_of _ (by decide +kernel)) ggX4_ifPut_X4_needRange
set_option maxRecDepth 20000 in
theorem ggX4_ifPut_X3_heightAt : GoodIn wsX4_ifPut wsX3_heightAt := goodIn_r _ [28, 29, 15, 16, 17, 13, 18, 19, 30, 6, 31, 141, 142, 143, 144] (by decide +kernel) (by decide +kernel)
set_option maxRecDepth 20000 in
theorem gX4_ifPut_X3_heightAt : GoodIn wsX4_ifPut (wsV RX4 65 RX3 yX3_heightAt wsX3_heightAt) := goodIn_app (goodIn_of _ (by decide +kernel)) ggX4_ifPut_X3_heightAt
set_option maxRecDepth 20000 in
theorem ggX4_ifPut_X4_drawnView : GoodIn wsX4_ifPut wsX4_drawnView := goodIn_r _ [35, 36, 37, 1, 38, 39, 40, 41, 42, 43, 44, 45, 46, 47, 48, 49, 26, 27, 13, 28, 29, 15, 16, 17, 18, 19, 30, 6, 31, 50, 51, 52, 53, 54, 55, 56, 57, 58, 59, 60, 61, 62, 63, 64, 65, 66, 67, 68, 69, 70, 71, 72, 73, 74, 75, 76, 77, 78, 79, 80, 81, 82, 83, 84, 85, 86, 87, 88, 89, 90, 91, 92, 93, 94, 95, 133, 134, 135, 136, 137, 138, 139, 140, 145, 146, 147, 148, 149, 150, 141, 142, 143, 144] (by decide +kernel) (by decide +kernel)
set_option maxRecDepth 20000 in
theorem gX4_ifPut_X4_drawnView : GoodIn wsX4_ifPut (wsV RX4 106 RX4 yX4_drawnView wsX4_drawnView) := goodIn_app (goodIn_of _ (by decide +kernel)) ggX4_ifPut_X4_drawnView
set_option maxRecDepth 20000 in
theorem ggX4_ifPut_X2_seenMoreWith : GoodIn wsX4_ifPut wsX2_seenMoreWith := goodIn_r _ [99, 77, 100, 101, 102, 41, 103, 54, 6, 55, 56, 57, 58, 59, 30, 31, 60, 61, 62, 63, 64, 65, 66, 44, 81, 82, 83, 84, 43, 104, 105, 106, 107, 93, 94, 95, 67, 68, 85, 86, 87, 88, 71, 72, 108, 109, 110, 111, 145, 146, 147, 148, 149, 150] (by decide +kernel) (by decide +kernel)
set_option maxRecDepth 20000 in
theorem gX4_ifPut_X2_seenMoreWith : GoodIn wsX4_ifPut (wsV RX4 216 RX2 yX2_seenMoreWith wsX2_seenMoreWith) := goodIn_app (goodIn_of _ (by decide +kernel)) ggX4_ifPut_X2_seenMoreWith
set_option maxRecDepth 20000 in
theorem ggX4_ifPut_X2_trianglesTakenBy : GoodIn wsX4_ifPut wsX2_trianglesTakenBy := goodIn_r _ [103, 54, 6, 55, 56, 57, 58, 59, 30, 31, 60, 61, 62, 63, 64, 65, 41, 66, 44, 81, 82, 83, 84, 43, 145, 146, 147, 148, 149, 150] (by decide +kernel) (by decide +kernel)
set_option maxRecDepth 20000 in
theorem gX4_ifPut_X2_trianglesTakenBy : GoodIn wsX4_ifPut (wsV RX4 219 RX2 yX2_trianglesTakenBy wsX2_trianglesTakenBy) := goodIn_app (goodIn_of _ (by decide +kernel)) ggX4_ifPut_X2_trianglesTakenBy
set_option maxRecDepth 20000 in
theorem ggX4_ifPut_X3_become : GoodIn wsX4_ifPut wsX3_become := goodIn_r _ [116, 19, 117, 29, 118, 30, 6, 31, 67, 68, 141, 142, 143, 144] (by decide +kernel) (by decide +kernel)
set_option maxRecDepth 20000 in
theorem gX4_ifPut_X3_become : GoodIn wsX4_ifPut (wsV RX4 103 RX3 yX3_become wsX3_become) := goodIn_app (goodIn_of _ (by decide +kernel)) ggX4_ifPut_X3_become
set_option maxRecDepth 20000 in
theorem ggX4_ifPut_X3_addBlock : GoodIn wsX4_ifPut wsX3_addBlock := goodIn_r _ [122, 29, 118, 15, 16, 17, 13, 18, 19, 30, 6, 31, 67, 68, 141, 142, 143, 144] (by decide +kernel) (by decide +kernel)
set_option maxRecDepth 20000 in
theorem gX4_ifPut_X3_addBlock : GoodIn wsX4_ifPut (wsV RX4 76 RX3 yX3_addBlock wsX3_addBlock) := goodIn_app (goodIn_of _ (by decide +kernel)) ggX4_ifPut_X3_addBlock
set_option maxRecDepth 20000 in
theorem ggX4_ifPut_X3_shadowCount : GoodIn wsX4_ifPut wsX3_shadowCount := goodIn_r _ [126, 19, 127, 128, 129, 13, 130, 30, 6, 31, 131, 26, 27, 28, 29, 15, 16, 17, 18, 132, 11, 12, 14, 141, 142, 143, 144] (by decide +kernel) (by decide +kernel)
set_option maxRecDepth 20000 in
theorem gX4_ifPut_X3_shadowCount : GoodIn wsX4_ifPut (wsV RX4 206 RX3 yX3_shadowCount wsX3_shadowCount) := goodIn_app (goodIn_of _ (by decide +kernel)) ggX4_ifPut_X3_shadowCount
theorem dX4_ifPut_0 : decode cX4_ifPut 0 = .ok (.aload_n 0, 1) := by decide +kernel
theorem dX4_ifPut_1 : decode cX4_ifPut 1 = .ok (.iload_n 1, 1) := by decide +kernel
theorem dX4_ifPut_2 : decode cX4_ifPut 2 = .ok (.iload_n 2, 1) := by decide +kernel
theorem dX4_ifPut_3 : decode cX4_ifPut 3 = .ok (.invokevirtual 61, 3) := by decide +kernel
theorem dX4_ifPut_6 : decode cX4_ifPut 6 = .ok (.iload_n 3, 1) := by decide +kernel
theorem dX4_ifPut_7 : decode cX4_ifPut 7 = .ok (.iconst 0, 1) := by decide +kernel
theorem dX4_ifPut_8 : decode cX4_ifPut 8 = .ok (.iconst 2, 1) := by decide +kernel
theorem dX4_ifPut_9 : decode cX4_ifPut 9 = .ok (.invokestatic 50, 3) := by decide +kernel
theorem dX4_ifPut_12 : decode cX4_ifPut 12 = .ok (.aload_n 0, 1) := by decide +kernel
theorem dX4_ifPut_13 : decode cX4_ifPut 13 = .ok (.getfield 12, 3) := by decide +kernel
theorem dX4_ifPut_16 : decode cX4_ifPut 16 = .ok (.iload_n 1, 1) := by decide +kernel
theorem dX4_ifPut_17 : decode cX4_ifPut 17 = .ok (.iload_n 2, 1) := by decide +kernel
theorem dX4_ifPut_18 : decode cX4_ifPut 18 = .ok (.invokevirtual 65, 3) := by decide +kernel
theorem dX4_ifPut_21 : decode cX4_ifPut 21 = .ok (.istore 4, 2) := by decide +kernel
theorem dX4_ifPut_23 : decode cX4_ifPut 23 = .ok (.iload 4, 2) := by decide +kernel
theorem dX4_ifPut_25 : decode cX4_ifPut 25 = .ok (.bipush 8, 2) := by decide +kernel
theorem dX4_ifPut_27 : decode cX4_ifPut 27 = .ok (.if_icmp .lt 5, 3) := by decide +kernel
theorem dX4_ifPut_30 : decode cX4_ifPut 30 = .ok (.iconst (-1), 1) := by decide +kernel
theorem dX4_ifPut_31 : decode cX4_ifPut 31 = .ok (.ireturn, 1) := by decide +kernel
theorem dX4_ifPut_32 : decode cX4_ifPut 32 = .ok (.iload_n 3, 1) := by decide +kernel
theorem dX4_ifPut_33 : decode cX4_ifPut 33 = .ok (.lookupswitch 55 #[(0, 27), (1, 42)], 27) := by decide +kernel
theorem dX4_ifPut_60 : decode cX4_ifPut 60 = .ok (.aload_n 0, 1) := by decide +kernel
theorem dX4_ifPut_61 : decode cX4_ifPut 61 = .ok (.invokevirtual 106, 3) := by decide +kernel
theorem dX4_ifPut_64 : decode cX4_ifPut 64 = .ok (.iload_n 1, 1) := by decide +kernel
theorem dX4_ifPut_65 : decode cX4_ifPut 65 = .ok (.iload_n 2, 1) := by decide +kernel
theorem dX4_ifPut_66 : decode cX4_ifPut 66 = .ok (.iload 4, 2) := by decide +kernel
theorem dX4_ifPut_68 : decode cX4_ifPut 68 = .ok (.invokevirtual 216, 3) := by decide +kernel
theorem dX4_ifPut_71 : decode cX4_ifPut 71 = .ok (.bipush 100, 2) := by decide +kernel
theorem dX4_ifPut_73 : decode cX4_ifPut 73 = .ok (.iadd, 1) := by decide +kernel
theorem dX4_ifPut_74 : decode cX4_ifPut 74 = .ok (.ireturn, 1) := by decide +kernel
theorem dX4_ifPut_75 : decode cX4_ifPut 75 = .ok (.aload_n 0, 1) := by decide +kernel
theorem dX4_ifPut_76 : decode cX4_ifPut 76 = .ok (.invokevirtual 106, 3) := by decide +kernel
theorem dX4_ifPut_79 : decode cX4_ifPut 79 = .ok (.iload_n 1, 1) := by decide +kernel
theorem dX4_ifPut_80 : decode cX4_ifPut 80 = .ok (.iload_n 2, 1) := by decide +kernel
theorem dX4_ifPut_81 : decode cX4_ifPut 81 = .ok (.iload 4, 2) := by decide +kernel
theorem dX4_ifPut_83 : decode cX4_ifPut 83 = .ok (.iconst 1, 1) := by decide +kernel
theorem dX4_ifPut_84 : decode cX4_ifPut 84 = .ok (.invokevirtual 219, 3) := by decide +kernel
theorem dX4_ifPut_87 : decode cX4_ifPut 87 = .ok (.ireturn, 1) := by decide +kernel
theorem dX4_ifPut_88 : decode cX4_ifPut 88 = .ok (.aload_n 0, 1) := by decide +kernel
theorem dX4_ifPut_89 : decode cX4_ifPut 89 = .ok (.getfield 37, 3) := by decide +kernel
theorem dX4_ifPut_92 : decode cX4_ifPut 92 = .ok (.aload_n 0, 1) := by decide +kernel
theorem dX4_ifPut_93 : decode cX4_ifPut 93 = .ok (.getfield 12, 3) := by decide +kernel
theorem dX4_ifPut_96 : decode cX4_ifPut 96 = .ok (.invokevirtual 103, 3) := by decide +kernel
theorem dX4_ifPut_99 : decode cX4_ifPut 99 = .ok (.aload_n 0, 1) := by decide +kernel
theorem dX4_ifPut_100 : decode cX4_ifPut 100 = .ok (.getfield 37, 3) := by decide +kernel
theorem dX4_ifPut_103 : decode cX4_ifPut 103 = .ok (.iload_n 1, 1) := by decide +kernel
theorem dX4_ifPut_104 : decode cX4_ifPut 104 = .ok (.iload_n 2, 1) := by decide +kernel
theorem dX4_ifPut_105 : decode cX4_ifPut 105 = .ok (.iconst 0, 1) := by decide +kernel
theorem dX4_ifPut_106 : decode cX4_ifPut 106 = .ok (.invokevirtual 76, 3) := by decide +kernel
theorem dX4_ifPut_109 : decode cX4_ifPut 109 = .ok (.aload_n 0, 1) := by decide +kernel
theorem dX4_ifPut_110 : decode cX4_ifPut 110 = .ok (.getfield 37, 3) := by decide +kernel
theorem dX4_ifPut_113 : decode cX4_ifPut 113 = .ok (.aload_n 0, 1) := by decide +kernel
theorem dX4_ifPut_114 : decode cX4_ifPut 114 = .ok (.getfield 12, 3) := by decide +kernel
theorem dX4_ifPut_117 : decode cX4_ifPut 117 = .ok (.getfield 121, 3) := by decide +kernel
theorem dX4_ifPut_120 : decode cX4_ifPut 120 = .ok (.invokevirtual 206, 3) := by decide +kernel
theorem dX4_ifPut_123 : decode cX4_ifPut 123 = .ok (.aload_n 0, 1) := by decide +kernel
theorem dX4_ifPut_124 : decode cX4_ifPut 124 = .ok (.getfield 12, 3) := by decide +kernel
theorem dX4_ifPut_127 : decode cX4_ifPut 127 = .ok (.aload_n 0, 1) := by decide +kernel
theorem dX4_ifPut_128 : decode cX4_ifPut 128 = .ok (.getfield 12, 3) := by decide +kernel
theorem dX4_ifPut_131 : decode cX4_ifPut 131 = .ok (.getfield 121, 3) := by decide +kernel
theorem dX4_ifPut_134 : decode cX4_ifPut 134 = .ok (.invokevirtual 206, 3) := by decide +kernel
theorem dX4_ifPut_137 : decode cX4_ifPut 137 = .ok (.isub, 1) := by decide +kernel
theorem dX4_ifPut_138 : decode cX4_ifPut 138 = .ok (.bipush 100, 2) := by decide +kernel
theorem dX4_ifPut_140 : decode cX4_ifPut 140 = .ok (.iadd, 1) := by decide +kernel
theorem dX4_ifPut_141 : decode cX4_ifPut 141 = .ok (.ireturn, 1) := by decide +kernel
set_option maxRecDepth 20000 in
theorem ggX4_ifHour_X4_needRange : GoodIn wsX4_ifHour wsX4_needRange := goodIn_ca (goodIn_r _ [5, 6, 7] (by decide +kernel) (by decide +kernel)) (goodIn_sub (fun _ h => List.mem_cons_of_mem _ (List.mem_append_right _ h)) (by decide +kernel))
set_option maxRecDepth 20000 in
theorem gX4_ifHour_X4_needRange : GoodIn wsX4_ifHour (va_wsS RX4 50 yX4_needRange wsX4_needRange) := goodIn_app (goodIn_of _ (by decide +kernel)) ggX4_ifHour_X4_needRange
set_option maxRecDepth 20000 in
theorem ggX4_ifHour_X3_shadowCount : GoodIn wsX4_ifHour wsX3_shadowCount := goodIn_r _ [12, 13, 14, 15, 16, 11, 17, 18, 4, 19, 20, 21, 22, 23, 24, 25, 26, 27, 28, 29, 30, 31, 32, 41, 42, 43, 44] (by decide +kernel) (by decide +kernel)
set_option maxRecDepth 20000 in
theorem gX4_ifHour_X3_shadowCount : GoodIn wsX4_ifHour (wsV RX4 206 RX3 yX3_shadowCount wsX3_shadowCount) := goodIn_app (goodIn_of _ (by decide +kernel)) ggX4_ifHour_X3_shadowCount
theorem dX4_ifHour_0 : decode cX4_ifHour 0 = .ok (.iload_n 1, 1) := by decide +kernel
theorem dX4_ifHour_1 : decode cX4_ifHour 1 = .ok (.iconst 0, 1) := by decide +kernel
theorem dX4_ifHour_2 : decode cX4_ifHour 2 = .ok (.bipush 7, 2) := by decide +kernel
theorem dX4_ifHour_4 : decode cX4_ifHour 4 = .ok (.invokestatic 50, 3) := by decide +kernel
theorem dX4_ifHour_7 : decode cX4_ifHour 7 = .ok (.aload_n 0, 1) := by decide +kernel
theorem dX4_ifHour_8 : decode cX4_ifHour 8 = .ok (.getfield 12, 3) := by decide +kernel
theorem dX4_ifHour_11 : decode cX4_ifHour 11 = .ok (.iload_n 1, 1) := by decide +kernel
theorem dX4_ifHour_12 : decode cX4_ifHour 12 = .ok (.invokevirtual 206, 3) := by decide +kernel
theorem dX4_ifHour_15 : decode cX4_ifHour 15 = .ok (.ireturn, 1) := by decide +kernel
set_option maxRecDepth 20000 in
theorem ggX4_brightest_X3_shadowCount : GoodIn wsX4_brightest wsX3_shadowCount := goodIn_r _ [6, 7, 8, 9, 10, 5, 11, 12, 13, 14, 15, 16, 17, 18, 19, 20, 21, 22, 23, 24, 25, 26, 27, 36, 37, 38, 39] (by decide +kernel) (by decide +kernel)
set_option maxRecDepth 20000 in
theorem gX4_brightest_X3_shadowCount : GoodIn wsX4_brightest (wsV RX4 206 RX3 yX3_shadowCount wsX3_shadowCount) := goodIn_app (goodIn_of _ (by decide +kernel)) ggX4_brightest_X3_shadowCount
theorem dX4_brightest_0 : decode cX4_brightest 0 = .ok (.iconst 0, 1) := by decide +kernel
theorem dX4_brightest_1 : decode cX4_brightest 1 = .ok (.istore_n 1, 1) := by decide +kernel
theorem dX4_brightest_2 : decode cX4_brightest 2 = .ok (.aload_n 0, 1) := by decide +kernel
theorem dX4_brightest_3 : decode cX4_brightest 3 = .ok (.getfield 12, 3) := by decide +kernel
theorem dX4_brightest_6 : decode cX4_brightest 6 = .ok (.iconst 0, 1) := by decide +kernel
theorem dX4_brightest_7 : decode cX4_brightest 7 = .ok (.invokevirtual 206, 3) := by decide +kernel
theorem dX4_brightest_10 : decode cX4_brightest 10 = .ok (.istore_n 2, 1) := by decide +kernel
theorem dX4_brightest_11 : decode cX4_brightest 11 = .ok (.iconst 1, 1) := by decide +kernel
theorem dX4_brightest_12 : decode cX4_brightest 12 = .ok (.istore_n 3, 1) := by decide +kernel
theorem dX4_brightest_13 : decode cX4_brightest 13 = .ok (.iload_n 3, 1) := by decide +kernel
theorem dX4_brightest_14 : decode cX4_brightest 14 = .ok (.bipush 8, 2) := by decide +kernel
theorem dX4_brightest_16 : decode cX4_brightest 16 = .ok (.if_icmp .ge 30, 3) := by decide +kernel
theorem dX4_brightest_19 : decode cX4_brightest 19 = .ok (.aload_n 0, 1) := by decide +kernel
theorem dX4_brightest_20 : decode cX4_brightest 20 = .ok (.getfield 12, 3) := by decide +kernel
theorem dX4_brightest_23 : decode cX4_brightest 23 = .ok (.iload_n 3, 1) := by decide +kernel
theorem dX4_brightest_24 : decode cX4_brightest 24 = .ok (.invokevirtual 206, 3) := by decide +kernel
theorem dX4_brightest_27 : decode cX4_brightest 27 = .ok (.istore 4, 2) := by decide +kernel
theorem dX4_brightest_29 : decode cX4_brightest 29 = .ok (.iload 4, 2) := by decide +kernel
theorem dX4_brightest_31 : decode cX4_brightest 31 = .ok (.iload_n 2, 1) := by decide +kernel
theorem dX4_brightest_32 : decode cX4_brightest 32 = .ok (.if_icmp .ge 8, 3) := by decide +kernel
theorem dX4_brightest_35 : decode cX4_brightest 35 = .ok (.iload 4, 2) := by decide +kernel
theorem dX4_brightest_37 : decode cX4_brightest 37 = .ok (.istore_n 2, 1) := by decide +kernel
theorem dX4_brightest_38 : decode cX4_brightest 38 = .ok (.iload_n 3, 1) := by decide +kernel
theorem dX4_brightest_39 : decode cX4_brightest 39 = .ok (.istore_n 1, 1) := by decide +kernel
theorem dX4_brightest_40 : decode cX4_brightest 40 = .ok (.iinc 3 1, 3) := by decide +kernel
theorem dX4_brightest_43 : decode cX4_brightest 43 = .ok (.goto (-30), 3) := by decide +kernel
theorem dX4_brightest_46 : decode cX4_brightest 46 = .ok (.iload_n 1, 1) := by decide +kernel
theorem dX4_brightest_47 : decode cX4_brightest 47 = .ok (.ireturn, 1) := by decide +kernel
set_option maxRecDepth 20000 in
theorem ggX4_same_X4_needRange : GoodIn wsX4_same wsX4_needRange := goodIn_ca (goodIn_r _ [5, 6, 7] (by decide +kernel) (by decide +kernel)) (goodIn_sub (fun _ h => List.mem_cons_of_mem _ (List.mem_append_right _ h)) (by decide +kernel))
set_option maxRecDepth 20000 in
theorem gX4_same_X4_needRange : GoodIn wsX4_same (va_wsS RX4 50 yX4_needRange wsX4_needRange) := goodIn_app (goodIn_of _ (by decide +kernel)) ggX4_same_X4_needRange
set_option maxRecDepth 20000 in
theorem ggX4_same_X3_fewestAlike : GoodIn wsX4_same wsX3_fewestAlike := goodIn_r _ [12, 13, 14, 15, 16, 17, 18, 19, 11, 20, 21, 22, 23, 24, 25, 26, 27, 28, 29, 30, 31, 32, 33, 34, 35, 36, 37, 38, 39, 4, 40, 56, 57, 58, 59] (by decide +kernel) (by decide +kernel)
set_option maxRecDepth 20000 in
theorem gX4_same_X3_fewestAlike : GoodIn wsX4_same (wsV RX4 223 RX3 yX3_fewestAlike wsX3_fewestAlike) := goodIn_app (goodIn_of _ (by decide +kernel)) ggX4_same_X3_fewestAlike
set_option maxRecDepth 20000 in
theorem ggX4_same_X3_mostAlike : GoodIn wsX4_same wsX3_mostAlike := goodIn_r _ [44, 21, 45, 46, 15, 47, 22, 23, 24, 11, 25, 13, 14, 16, 26, 27, 28, 29, 30, 31, 32, 33, 34, 35, 36, 37, 38, 39, 4, 40, 56, 57, 58, 59] (by decide +kernel) (by decide +kernel)
set_option maxRecDepth 20000 in
theorem gX4_same_X3_mostAlike : GoodIn wsX4_same (wsV RX4 226 RX3 yX3_mostAlike wsX3_mostAlike) := goodIn_app (goodIn_of _ (by decide +kernel)) ggX4_same_X3_mostAlike
theorem dX4_same_0 : decode cX4_same 0 = .ok (.iload_n 1, 1) := by decide +kernel
theorem dX4_same_1 : decode cX4_same 1 = .ok (.iconst 0, 1) := by decide +kernel
theorem dX4_same_2 : decode cX4_same 2 = .ok (.iconst 1, 1) := by decide +kernel
theorem dX4_same_3 : decode cX4_same 3 = .ok (.invokestatic 50, 3) := by decide +kernel
theorem dX4_same_6 : decode cX4_same 6 = .ok (.iload_n 1, 1) := by decide +kernel
theorem dX4_same_7 : decode cX4_same 7 = .ok (.ifCond .ne 13, 3) := by decide +kernel
theorem dX4_same_10 : decode cX4_same 10 = .ok (.aload_n 0, 1) := by decide +kernel
theorem dX4_same_11 : decode cX4_same 11 = .ok (.getfield 12, 3) := by decide +kernel
theorem dX4_same_14 : decode cX4_same 14 = .ok (.invokevirtual 223, 3) := by decide +kernel
theorem dX4_same_17 : decode cX4_same 17 = .ok (.goto 10, 3) := by decide +kernel
theorem dX4_same_20 : decode cX4_same 20 = .ok (.aload_n 0, 1) := by decide +kernel
theorem dX4_same_21 : decode cX4_same 21 = .ok (.getfield 12, 3) := by decide +kernel
theorem dX4_same_24 : decode cX4_same 24 = .ok (.invokevirtual 226, 3) := by decide +kernel
theorem dX4_same_27 : decode cX4_same 27 = .ok (.ireturn, 1) := by decide +kernel
set_option maxRecDepth 20000 in
theorem ggX4_bestTurn_X4_drawnView : GoodIn wsX4_bestTurn wsX4_drawnView := goodIn_r _ [9, 10, 11, 2, 12, 13, 14, 15, 16, 17, 18, 19, 20, 21, 22, 23, 24, 25, 26, 27, 28, 29, 30, 31, 32, 33, 34, 8, 35, 36, 37, 38, 39, 40, 41, 42, 43, 44, 45, 46, 47, 48, 49, 50, 51, 52, 53, 54, 55, 56, 57, 58, 59, 60, 61, 62, 63, 64, 65, 66, 67, 68, 69, 70, 71, 72, 73, 74, 75, 76, 77, 78, 79, 80, 81, 103, 104, 105, 106, 107, 108, 109, 110, 97, 98, 99, 100, 101, 102, 111, 112, 113, 114] (by decide +kernel) (by decide +kernel)
set_option maxRecDepth 20000 in
theorem gX4_bestTurn_X4_drawnView : GoodIn wsX4_bestTurn (wsV RX4 106 RX4 yX4_drawnView wsX4_drawnView) := goodIn_app (goodIn_of _ (by decide +kernel)) ggX4_bestTurn_X4_drawnView
set_option maxRecDepth 20000 in
theorem ggX4_bestTurn_X3_become : GoodIn wsX4_bestTurn wsX3_become := goodIn_r _ [85, 33, 86, 28, 87, 34, 8, 35, 53, 54, 111, 112, 113, 114] (by decide +kernel) (by decide +kernel)
set_option maxRecDepth 20000 in
theorem gX4_bestTurn_X3_become : GoodIn wsX4_bestTurn (wsV RX4 103 RX3 yX3_become wsX3_become) := goodIn_app (goodIn_of _ (by decide +kernel)) ggX4_bestTurn_X3_become
set_option maxRecDepth 20000 in
theorem ggX4_bestTurn_X3_becomeTurned : GoodIn wsX4_bestTurn wsX3_becomeTurned := goodIn_r _ [91, 33, 86, 28, 87, 92, 93, 94, 26, 95, 96, 20, 21, 22, 29, 30, 31, 32, 34, 8, 35, 53, 54, 111, 112, 113, 114] (by decide +kernel) (by decide +kernel)
set_option maxRecDepth 20000 in
theorem gX4_bestTurn_X3_becomeTurned : GoodIn wsX4_bestTurn (wsV RX4 99 RX3 yX3_becomeTurned wsX3_becomeTurned) := goodIn_app (goodIn_of _ (by decide +kernel)) ggX4_bestTurn_X3_becomeTurned
set_option maxRecDepth 20000 in
theorem ggX4_bestTurn_X2_draw : GoodIn wsX4_bestTurn wsX2_draw := goodIn_r _ [16, 17, 18, 19, 20, 21, 22, 23, 24, 25, 26, 27, 28, 29, 30, 31, 32, 33, 34, 8, 35, 36, 37, 38, 15, 39, 40, 41, 42, 43, 44, 45, 46, 47, 48, 49, 50, 51, 52, 53, 54, 55, 56, 57, 58, 59, 60, 61, 62, 63, 64, 65, 66, 67, 68, 69, 70, 71, 72, 73, 74, 75, 76, 77, 78, 79, 80, 81, 97, 98, 99, 100, 101, 102, 111, 112, 113, 114] (by decide +kernel) (by decide +kernel)
set_option maxRecDepth 20000 in
theorem gX4_bestTurn_X2_draw : GoodIn wsX4_bestTurn (wsV RX4 229 RX2 yX2_draw wsX2_draw) := goodIn_app (goodIn_of _ (by decide +kernel)) ggX4_bestTurn_X2_draw
theorem dX4_bestTurn_0 : decode cX4_bestTurn 0 = .ok (.iconst 0, 1) := by decide +kernel
theorem dX4_bestTurn_1 : decode cX4_bestTurn 1 = .ok (.istore_n 1, 1) := by decide +kernel
theorem dX4_bestTurn_2 : decode cX4_bestTurn 2 = .ok (.aload_n 0, 1) := by decide +kernel
theorem dX4_bestTurn_3 : decode cX4_bestTurn 3 = .ok (.invokevirtual 106, 3) := by decide +kernel
theorem dX4_bestTurn_6 : decode cX4_bestTurn 6 = .ok (.getfield 110, 3) := by decide +kernel
theorem dX4_bestTurn_9 : decode cX4_bestTurn 9 = .ok (.istore_n 2, 1) := by decide +kernel
theorem dX4_bestTurn_10 : decode cX4_bestTurn 10 = .ok (.aload_n 0, 1) := by decide +kernel
theorem dX4_bestTurn_11 : decode cX4_bestTurn 11 = .ok (.getfield 37, 3) := by decide +kernel
theorem dX4_bestTurn_14 : decode cX4_bestTurn 14 = .ok (.aload_n 0, 1) := by decide +kernel
theorem dX4_bestTurn_15 : decode cX4_bestTurn 15 = .ok (.getfield 12, 3) := by decide +kernel
theorem dX4_bestTurn_18 : decode cX4_bestTurn 18 = .ok (.invokevirtual 103, 3) := by decide +kernel
theorem dX4_bestTurn_21 : decode cX4_bestTurn 21 = .ok (.iconst 1, 1) := by decide +kernel
theorem dX4_bestTurn_22 : decode cX4_bestTurn 22 = .ok (.istore_n 3, 1) := by decide +kernel
theorem dX4_bestTurn_23 : decode cX4_bestTurn 23 = .ok (.iload_n 3, 1) := by decide +kernel
theorem dX4_bestTurn_24 : decode cX4_bestTurn 24 = .ok (.iconst 4, 1) := by decide +kernel
theorem dX4_bestTurn_25 : decode cX4_bestTurn 25 = .ok (.if_icmp .ge 63, 3) := by decide +kernel
theorem dX4_bestTurn_28 : decode cX4_bestTurn 28 = .ok (.aload_n 0, 1) := by decide +kernel
theorem dX4_bestTurn_29 : decode cX4_bestTurn 29 = .ok (.getfield 40, 3) := by decide +kernel
theorem dX4_bestTurn_32 : decode cX4_bestTurn 32 = .ok (.aload_n 0, 1) := by decide +kernel
theorem dX4_bestTurn_33 : decode cX4_bestTurn 33 = .ok (.getfield 37, 3) := by decide +kernel
theorem dX4_bestTurn_36 : decode cX4_bestTurn 36 = .ok (.invokevirtual 99, 3) := by decide +kernel
theorem dX4_bestTurn_39 : decode cX4_bestTurn 39 = .ok (.aload_n 0, 1) := by decide +kernel
theorem dX4_bestTurn_40 : decode cX4_bestTurn 40 = .ok (.getfield 37, 3) := by decide +kernel
theorem dX4_bestTurn_43 : decode cX4_bestTurn 43 = .ok (.aload_n 0, 1) := by decide +kernel
theorem dX4_bestTurn_44 : decode cX4_bestTurn 44 = .ok (.getfield 40, 3) := by decide +kernel
theorem dX4_bestTurn_47 : decode cX4_bestTurn 47 = .ok (.invokevirtual 103, 3) := by decide +kernel
theorem dX4_bestTurn_50 : decode cX4_bestTurn 50 = .ok (.aload_n 0, 1) := by decide +kernel
theorem dX4_bestTurn_51 : decode cX4_bestTurn 51 = .ok (.getfield 43, 3) := by decide +kernel
theorem dX4_bestTurn_54 : decode cX4_bestTurn 54 = .ok (.aload_n 0, 1) := by decide +kernel
theorem dX4_bestTurn_55 : decode cX4_bestTurn 55 = .ok (.getfield 37, 3) := by decide +kernel
theorem dX4_bestTurn_58 : decode cX4_bestTurn 58 = .ok (.invokevirtual 229, 3) := by decide +kernel
theorem dX4_bestTurn_61 : decode cX4_bestTurn 61 = .ok (.aload_n 0, 1) := by decide +kernel
theorem dX4_bestTurn_62 : decode cX4_bestTurn 62 = .ok (.getfield 43, 3) := by decide +kernel
theorem dX4_bestTurn_65 : decode cX4_bestTurn 65 = .ok (.getfield 110, 3) := by decide +kernel
theorem dX4_bestTurn_68 : decode cX4_bestTurn 68 = .ok (.iload_n 2, 1) := by decide +kernel
theorem dX4_bestTurn_69 : decode cX4_bestTurn 69 = .ok (.if_icmp .le 13, 3) := by decide +kernel
theorem dX4_bestTurn_72 : decode cX4_bestTurn 72 = .ok (.aload_n 0, 1) := by decide +kernel
theorem dX4_bestTurn_73 : decode cX4_bestTurn 73 = .ok (.getfield 43, 3) := by decide +kernel
theorem dX4_bestTurn_76 : decode cX4_bestTurn 76 = .ok (.getfield 110, 3) := by decide +kernel
theorem dX4_bestTurn_79 : decode cX4_bestTurn 79 = .ok (.istore_n 2, 1) := by decide +kernel
theorem dX4_bestTurn_80 : decode cX4_bestTurn 80 = .ok (.iload_n 3, 1) := by decide +kernel
theorem dX4_bestTurn_81 : decode cX4_bestTurn 81 = .ok (.istore_n 1, 1) := by decide +kernel
theorem dX4_bestTurn_82 : decode cX4_bestTurn 82 = .ok (.iinc 3 1, 3) := by decide +kernel
theorem dX4_bestTurn_85 : decode cX4_bestTurn 85 = .ok (.goto (-62), 3) := by decide +kernel
theorem dX4_bestTurn_88 : decode cX4_bestTurn 88 = .ok (.iload_n 1, 1) := by decide +kernel
theorem dX4_bestTurn_89 : decode cX4_bestTurn 89 = .ok (.ireturn, 1) := by decide +kernel
set_option maxRecDepth 20000 in
theorem ggX4_seenShare_X3_blockCount : GoodIn wsX4_seenShare wsX3_blockCount := goodIn_r _ [6, 7, 8, 9, 10, 5, 11, 12, 13, 14, 15, 16, 17, 18, 19, 20, 21, 22, 23, 24, 25, 26, 27, 106, 107, 108, 109] (by decide +kernel) (by decide +kernel)
set_option maxRecDepth 20000 in
theorem gX4_seenShare_X3_blockCount : GoodIn wsX4_seenShare (wsV RX4 114 RX3 yX3_blockCount wsX3_blockCount) := goodIn_app (goodIn_of _ (by decide +kernel)) ggX4_seenShare_X3_blockCount
set_option maxRecDepth 20000 in
theorem ggX4_seenShare_X4_drawnView : GoodIn wsX4_seenShare wsX4_drawnView := goodIn_r _ [31, 32, 33, 1, 34, 35, 36, 37, 38, 39, 40, 41, 42, 43, 44, 45, 17, 18, 5, 19, 20, 21, 22, 23, 24, 7, 25, 26, 27, 46, 47, 48, 49, 50, 51, 52, 53, 54, 55, 56, 57, 58, 59, 60, 61, 62, 63, 64, 65, 66, 67, 68, 69, 70, 71, 72, 73, 74, 75, 76, 77, 78, 79, 80, 81, 82, 83, 84, 85, 86, 87, 88, 89, 90, 91, 92, 93, 94, 95, 96, 97, 98, 99, 100, 101, 102, 103, 104, 105, 106, 107, 108, 109] (by decide +kernel) (by decide +kernel)
set_option maxRecDepth 20000 in
theorem gX4_seenShare_X4_drawnView : GoodIn wsX4_seenShare (wsV RX4 106 RX4 yX4_drawnView wsX4_drawnView) := goodIn_app (goodIn_of _ (by decide +kernel)) ggX4_seenShare_X4_drawnView
theorem dX4_seenShare_0 : decode cX4_seenShare 0 = .ok (.aload_n 0, 1) := by decide +kernel
theorem dX4_seenShare_1 : decode cX4_seenShare 1 = .ok (.getfield 12, 3) := by decide +kernel
theorem dX4_seenShare_4 : decode cX4_seenShare 4 = .ok (.invokevirtual 114, 3) := by decide +kernel
theorem dX4_seenShare_7 : decode cX4_seenShare 7 = .ok (.istore_n 1, 1) := by decide +kernel
theorem dX4_seenShare_8 : decode cX4_seenShare 8 = .ok (.iload_n 1, 1) := by decide +kernel
theorem dX4_seenShare_9 : decode cX4_seenShare 9 = .ok (.ifCond .ne 5, 3) := by decide +kernel
theorem dX4_seenShare_12 : decode cX4_seenShare 12 = .ok (.dconst 1, 1) := by decide +kernel
theorem dX4_seenShare_13 : decode cX4_seenShare 13 = .ok (.dreturn, 1) := by decide +kernel
theorem dX4_seenShare_14 : decode cX4_seenShare 14 = .ok (.aload_n 0, 1) := by decide +kernel
theorem dX4_seenShare_15 : decode cX4_seenShare 15 = .ok (.invokevirtual 106, 3) := by decide +kernel
theorem dX4_seenShare_18 : decode cX4_seenShare 18 = .ok (.getfield 110, 3) := by decide +kernel
theorem dX4_seenShare_21 : decode cX4_seenShare 21 = .ok (.i2d, 1) := by decide +kernel
theorem dX4_seenShare_22 : decode cX4_seenShare 22 = .ok (.iload_n 1, 1) := by decide +kernel
theorem dX4_seenShare_23 : decode cX4_seenShare 23 = .ok (.i2d, 1) := by decide +kernel
theorem dX4_seenShare_24 : decode cX4_seenShare 24 = .ok (.ddiv, 1) := by decide +kernel
theorem dX4_seenShare_25 : decode cX4_seenShare 25 = .ok (.dreturn, 1) := by decide +kernel
set_option maxRecDepth 20000 in
theorem ggX4_digest_X4_count : GoodIn wsX4_digest wsX4_count := goodIn_ca (goodIn_r _ [8, 2, 9, 10, 11, 7, 12, 13, 14, 15, 16, 17, 18, 19, 20, 21, 22, 23, 24, 25, 26, 27, 28, 29, 30, 31, 32, 33, 34, 35, 36, 37, 38, 39, 40, 41, 42, 43, 44, 45, 46, 47, 48, 49, 50, 51, 52, 53, 54, 55, 56, 57, 58, 59, 60, 61, 62, 63, 64, 65, 66, 67, 68, 69, 70, 71, 72, 73, 74, 75, 76, 77, 78, 79, 80, 81, 82, 83, 84, 85, 86, 87, 88, 89, 90, 91, 92, 93, 94, 95, 96, 97, 98, 99, 100, 101, 102, 103, 104, 105, 106, 107, 108, 109, 110, 111, 112, 113, 114, 115, 116, 117, 118, 119, 120, 121, 122, 123, 124, 125, 126, 127, 128, 129, 130, 131, 132, 133, 134, 135, 136, 137, 138, 139, 140, 141, 142, 305, 306, 307, 308, 309, 310, 311, 312, 313, 314, 315, 316, 319, 320, 321, 322, 323, 324, 325, 326, 327] (by decide +kernel) (by decide +kernel)) (goodIn_sub (fun _ h => List.mem_cons_of_mem _ (List.mem_append_left _ (List.mem_append_right _ h))) (by decide +kernel))
set_option maxRecDepth 20000 in
theorem gX4_digest_X4_count : GoodIn wsX4_digest (wsV RX4 234 RX4 yX4_count wsX4_count) := goodIn_app (goodIn_of _ (by decide +kernel)) ggX4_digest_X4_count
set_option maxRecDepth 20000 in
theorem ggX4_digest_X4_mix : GoodIn wsX4_digest wsX4_mix := goodIn_r _ [145, 146] (by decide +kernel) (by decide +kernel)
set_option maxRecDepth 20000 in
theorem gX4_digest_X4_mix : GoodIn wsX4_digest (va_wsS RX4 237 yX4_mix wsX4_mix) := goodIn_app (goodIn_of _ (by decide +kernel)) ggX4_digest_X4_mix
set_option maxRecDepth 20000 in
theorem ggX4_digest_X4_mixSquare : GoodIn wsX4_digest wsX4_mixSquare := goodIn_ca (goodIn_ca (goodIn_r _ [150, 2, 151, 152, 153, 7, 154, 155, 156, 157, 158, 159, 160, 161, 113, 114, 18, 115, 34, 35, 36, 37, 20, 10, 11, 12, 13, 14, 162, 30, 31, 32, 33, 38, 39, 163, 164, 165, 166, 29, 167, 139, 140, 141, 142, 168, 109, 110, 111, 112, 40, 41, 42, 43, 44, 45, 46, 47, 48, 49, 50, 51, 52, 53, 54, 55, 56, 57, 58, 59, 60, 61, 62, 63, 64, 65, 66, 67, 68, 69, 70, 71, 72, 73, 74, 75, 76, 77, 78, 79, 80, 81, 82, 83, 84, 85, 86, 87, 88, 89, 90, 91, 92, 93, 94, 95, 96, 97, 98, 99, 100, 101, 102, 103, 169, 170, 171, 172, 143, 144, 145, 146, 173, 174, 175, 176, 177, 178, 179, 180, 181, 182, 183, 184, 185, 186, 187, 188, 189, 190, 191, 192, 193, 194, 195, 196, 197, 198, 199, 200, 201, 202, 203, 204, 205, 206, 207, 208, 209, 210, 211, 212, 104, 105, 106, 107, 108, 305, 306, 307, 308, 309, 310, 311, 312, 313, 314, 315, 316, 319, 320, 321, 322, 323, 324] (by decide +kernel) (by decide +kernel)) (goodIn_sub (fun _ h => List.mem_cons_of_mem _ (List.mem_append_right _ h)) (by decide +kernel))) (goodIn_sub (fun _ h => List.mem_cons_of_mem _ (List.mem_append_left _ (List.mem_append_right _ h))) (by decide +kernel))
set_option maxRecDepth 20000 in
theorem gX4_digest_X4_mixSquare : GoodIn wsX4_digest (wsV RX4 241 RX4 yX4_mixSquare wsX4_mixSquare) := goodIn_app (goodIn_of _ (by decide +kernel)) ggX4_digest_X4_mixSquare
set_option maxRecDepth 20000 in
theorem ggX4_digest_X4_mixPicture : GoodIn wsX4_digest wsX4_mixPicture := goodIn_ca (goodIn_r _ [216, 217, 218, 219, 7, 220, 2, 10, 11, 12, 13, 14, 40, 41, 42, 43, 44, 45, 46, 47, 48, 49, 50, 51, 52, 53, 54, 55, 56, 57, 30, 31, 18, 32, 33, 34, 35, 36, 37, 20, 38, 39, 58, 59, 60, 61, 62, 63, 64, 65, 66, 67, 68, 69, 70, 71, 72, 73, 74, 75, 76, 77, 78, 79, 80, 81, 82, 83, 84, 85, 86, 87, 88, 89, 90, 91, 92, 93, 94, 95, 96, 97, 98, 99, 100, 101, 102, 103, 221, 222, 132, 133, 223, 134, 135, 224, 136, 137, 177, 139, 140, 141, 142, 29, 143, 144, 145, 146, 305, 306, 307, 308, 309, 310, 311, 312, 319, 320, 321, 322, 323, 324, 313, 314, 315, 316] (by decide +kernel) (by decide +kernel)) (goodIn_sub (fun _ h => List.mem_cons_of_mem _ (List.mem_append_left _ (List.mem_append_right _ h))) (by decide +kernel))
set_option maxRecDepth 20000 in
theorem gX4_digest_X4_mixPicture : GoodIn wsX4_digest (wsV RX4 245 RX4 yX4_mixPicture wsX4_mixPicture) := goodIn_app (goodIn_of _ (by decide +kernel)) ggX4_digest_X4_mixPicture
set_option maxRecDepth 20000 in
theorem ggX4_digest_X4_mixElevations : GoodIn wsX4_digest wsX4_mixElevations := goodIn_ca (goodIn_ca (goodIn_r _ [228, 2, 229, 230, 231, 7, 232, 233, 234, 235, 236, 159, 160, 10, 11, 12, 13, 14, 237, 125, 126, 18, 127, 20, 120, 121, 122, 123, 25, 26, 27, 28, 29, 30, 31, 32, 33, 34, 35, 36, 37, 38, 39, 238, 239, 240, 241, 242, 22, 23, 24, 143, 144, 145, 146, 305, 306, 307, 308, 309, 310, 311, 312, 313, 314, 315, 316] (by decide +kernel) (by decide +kernel)) (goodIn_sub (fun _ h => List.mem_cons_of_mem _ (List.mem_append_right _ h)) (by decide +kernel))) (goodIn_sub (fun _ h => List.mem_cons_of_mem _ (List.mem_append_left _ (List.mem_append_right _ h))) (by decide +kernel))
set_option maxRecDepth 20000 in
theorem gX4_digest_X4_mixElevations : GoodIn wsX4_digest (wsV RX4 249 RX4 yX4_mixElevations wsX4_mixElevations) := goodIn_app (goodIn_of _ (by decide +kernel)) ggX4_digest_X4_mixElevations
set_option maxRecDepth 20000 in
theorem ggX4_digest_X4_cut : GoodIn wsX4_digest wsX4_cut := goodIn_ca (goodIn_ca (goodIn_r _ [246, 2, 233, 234, 235, 7, 236, 159, 160, 10, 11, 12, 13, 14, 162, 30, 31, 18, 32, 33, 34, 35, 36, 37, 20, 38, 39, 305, 306, 307, 308, 309, 310, 311, 312, 313, 314, 315, 316] (by decide +kernel) (by decide +kernel)) (goodIn_sub (fun _ h => List.mem_cons_of_mem _ (List.mem_append_right _ h)) (by decide +kernel))) (goodIn_sub (fun _ h => List.mem_cons_of_mem _ (List.mem_append_left _ (List.mem_append_right _ h))) (by decide +kernel))
set_option maxRecDepth 20000 in
theorem gX4_digest_X4_cut : GoodIn wsX4_digest (wsV RX4 252 RX4 yX4_cut wsX4_cut) := goodIn_app (goodIn_of _ (by decide +kernel)) ggX4_digest_X4_cut
set_option maxRecDepth 20000 in
theorem ggX4_digest_X4_ifHour : GoodIn wsX4_digest wsX4_ifHour := goodIn_ca (goodIn_r _ [250, 2, 10, 11, 7, 12, 13, 14, 104, 105, 106, 18, 107, 20, 108, 109, 110, 111, 38, 39, 29, 30, 31, 32, 33, 34, 35, 36, 37, 112, 113, 114, 115, 305, 306, 307, 308, 309, 310, 311, 312, 313, 314, 315, 316] (by decide +kernel) (by decide +kernel)) (goodIn_sub (fun _ h => List.mem_cons_of_mem _ (List.mem_append_left _ (List.mem_append_right _ h))) (by decide +kernel))
set_option maxRecDepth 20000 in
theorem gX4_digest_X4_ifHour : GoodIn wsX4_digest (wsV RX4 255 RX4 yX4_ifHour wsX4_ifHour) := goodIn_app (goodIn_of _ (by decide +kernel)) ggX4_digest_X4_ifHour
set_option maxRecDepth 20000 in
theorem ggX4_digest_X4_brightest : GoodIn wsX4_digest wsX4_brightest := goodIn_r _ [254, 2, 104, 105, 106, 18, 107, 20, 108, 109, 110, 111, 38, 7, 39, 29, 30, 31, 32, 33, 34, 35, 36, 37, 112, 113, 114, 115, 305, 306, 307, 308, 309, 310, 311, 312, 313, 314, 315, 316] (by decide +kernel) (by decide +kernel)
set_option maxRecDepth 20000 in
theorem gX4_digest_X4_brightest : GoodIn wsX4_digest (wsV RX4 258 RX4 yX4_brightest wsX4_brightest) := goodIn_app (goodIn_of _ (by decide +kernel)) ggX4_digest_X4_brightest
set_option maxRecDepth 20000 in
theorem ggX4_digest_X4_same : GoodIn wsX4_digest wsX4_same := goodIn_ca (goodIn_r _ [258, 2, 10, 11, 7, 12, 13, 14, 259, 260, 261, 18, 262, 120, 121, 122, 123, 263, 264, 265, 266, 20, 124, 125, 126, 127, 25, 26, 27, 28, 29, 30, 31, 32, 33, 34, 35, 36, 37, 38, 39, 267, 268, 269, 270, 271, 272, 273, 305, 306, 307, 308, 309, 310, 311, 312, 313, 314, 315, 316] (by decide +kernel) (by decide +kernel)) (goodIn_sub (fun _ h => List.mem_cons_of_mem _ (List.mem_append_left _ (List.mem_append_right _ h))) (by decide +kernel))
set_option maxRecDepth 20000 in
theorem gX4_digest_X4_same : GoodIn wsX4_digest (wsV RX4 261 RX4 yX4_same wsX4_same) := goodIn_app (goodIn_of _ (by decide +kernel)) ggX4_digest_X4_same
set_option maxRecDepth 20000 in
theorem ggX4_digest_X4_bestTurn : GoodIn wsX4_digest wsX4_bestTurn := goodIn_r _ [277, 186, 2, 278, 279, 40, 41, 42, 7, 43, 44, 45, 46, 47, 48, 49, 50, 51, 52, 53, 54, 55, 56, 57, 30, 31, 18, 32, 33, 34, 35, 36, 37, 20, 38, 39, 58, 59, 60, 61, 62, 63, 64, 65, 66, 67, 68, 69, 70, 71, 72, 73, 74, 75, 76, 77, 78, 79, 80, 81, 82, 83, 84, 85, 86, 87, 88, 89, 90, 91, 92, 93, 94, 95, 96, 97, 98, 99, 100, 101, 102, 103, 204, 205, 206, 207, 208, 142, 280, 281, 282, 283, 284, 285, 286, 287, 288, 319, 320, 321, 322, 323, 324, 305, 306, 307, 308, 309, 310, 311, 312, 313, 314, 315, 316] (by decide +kernel) (by decide +kernel)
set_option maxRecDepth 20000 in
theorem gX4_digest_X4_bestTurn : GoodIn wsX4_digest (wsV RX4 264 RX4 yX4_bestTurn wsX4_bestTurn) := goodIn_app (goodIn_of _ (by decide +kernel)) ggX4_digest_X4_bestTurn
set_option maxRecDepth 20000 in
theorem ggX4_digest_X4_seenShare : GoodIn wsX4_digest wsX4_seenShare := goodIn_r _ [292, 2, 15, 16, 17, 18, 19, 20, 21, 22, 23, 24, 25, 26, 27, 28, 29, 30, 31, 32, 33, 34, 35, 36, 37, 38, 7, 39, 40, 41, 42, 43, 44, 45, 46, 47, 48, 49, 50, 51, 52, 53, 54, 55, 56, 57, 58, 59, 60, 61, 62, 63, 64, 65, 66, 67, 68, 69, 70, 71, 72, 73, 74, 75, 76, 77, 78, 79, 80, 81, 82, 83, 84, 85, 86, 87, 88, 89, 90, 91, 92, 93, 94, 95, 96, 97, 98, 99, 100, 101, 102, 103, 305, 306, 307, 308, 309, 310, 311, 312, 319, 320, 321, 322, 323, 324, 313, 314, 315, 316] (by decide +kernel) (by decide +kernel)
set_option maxRecDepth 20000 in
theorem gX4_digest_X4_seenShare : GoodIn wsX4_digest (wsV RX4 267 RX4 yX4_seenShare wsX4_seenShare) := goodIn_app (goodIn_of _ (by decide +kernel)) ggX4_digest_X4_seenShare
set_option maxRecDepth 20000 in
theorem ggX4_digest_X4_bitsOf : GoodIn wsX4_digest wsX4_bitsOf := goodIn_r _ [295, 296, 297, 298] (by decide +kernel) (by decide +kernel)
set_option maxRecDepth 20000 in
theorem gX4_digest_X4_bitsOf : GoodIn wsX4_digest (va_wsS RX4 271 yX4_bitsOf wsX4_bitsOf) := goodIn_app (goodIn_of _ (by decide +kernel)) ggX4_digest_X4_bitsOf
set_option maxRecDepth 20000 in
theorem ggX4_digest_X0_codeAt : GoodIn wsX4_digest wsX0_codeAt := goodIn_r _ [303, 304, 38, 7, 39, 317, 318] (by decide +kernel) (by decide +kernel)
set_option maxRecDepth 20000 in
theorem gX4_digest_X0_codeAt : GoodIn wsX4_digest (wsV RX4 275 RX0 yX0_codeAt wsX0_codeAt) := goodIn_app (goodIn_of _ (by decide +kernel)) ggX4_digest_X0_codeAt
theorem dX4_digest_0 : decode cX4_digest 0 = .ok (.ldc2_w 232, 3) := by decide +kernel
theorem dX4_digest_3 : decode cX4_digest 3 = .ok (.lstore_n 1, 1) := by decide +kernel
theorem dX4_digest_4 : decode cX4_digest 4 = .ok (.iconst 0, 1) := by decide +kernel
theorem dX4_digest_5 : decode cX4_digest 5 = .ok (.istore_n 3, 1) := by decide +kernel
theorem dX4_digest_6 : decode cX4_digest 6 = .ok (.iload_n 3, 1) := by decide +kernel
theorem dX4_digest_7 : decode cX4_digest 7 = .ok (.bipush 12, 2) := by decide +kernel
theorem dX4_digest_9 : decode cX4_digest 9 = .ok (.if_icmp .gt 20, 3) := by decide +kernel
theorem dX4_digest_12 : decode cX4_digest 12 = .ok (.lload_n 1, 1) := by decide +kernel
theorem dX4_digest_13 : decode cX4_digest 13 = .ok (.aload_n 0, 1) := by decide +kernel
theorem dX4_digest_14 : decode cX4_digest 14 = .ok (.iload_n 3, 1) := by decide +kernel
theorem dX4_digest_15 : decode cX4_digest 15 = .ok (.invokevirtual 234, 3) := by decide +kernel
theorem dX4_digest_18 : decode cX4_digest 18 = .ok (.i2l, 1) := by decide +kernel
theorem dX4_digest_19 : decode cX4_digest 19 = .ok (.invokestatic 237, 3) := by decide +kernel
theorem dX4_digest_22 : decode cX4_digest 22 = .ok (.lstore_n 1, 1) := by decide +kernel
theorem dX4_digest_23 : decode cX4_digest 23 = .ok (.iinc 3 1, 3) := by decide +kernel
theorem dX4_digest_26 : decode cX4_digest 26 = .ok (.goto (-20), 3) := by decide +kernel
theorem dX4_digest_29 : decode cX4_digest 29 = .ok (.iconst 0, 1) := by decide +kernel
theorem dX4_digest_30 : decode cX4_digest 30 = .ok (.istore_n 3, 1) := by decide +kernel
theorem dX4_digest_31 : decode cX4_digest 31 = .ok (.iload_n 3, 1) := by decide +kernel
theorem dX4_digest_32 : decode cX4_digest 32 = .ok (.aload_n 0, 1) := by decide +kernel
theorem dX4_digest_33 : decode cX4_digest 33 = .ok (.getfield 12, 3) := by decide +kernel
theorem dX4_digest_36 : decode cX4_digest 36 = .ok (.getfield 118, 3) := by decide +kernel
theorem dX4_digest_39 : decode cX4_digest 39 = .ok (.if_icmp .ge 39, 3) := by decide +kernel
theorem dX4_digest_42 : decode cX4_digest 42 = .ok (.iconst 0, 1) := by decide +kernel
theorem dX4_digest_43 : decode cX4_digest 43 = .ok (.istore 4, 2) := by decide +kernel
theorem dX4_digest_45 : decode cX4_digest 45 = .ok (.iload 4, 2) := by decide +kernel
theorem dX4_digest_47 : decode cX4_digest 47 = .ok (.aload_n 0, 1) := by decide +kernel
theorem dX4_digest_48 : decode cX4_digest 48 = .ok (.getfield 12, 3) := by decide +kernel
theorem dX4_digest_51 : decode cX4_digest 51 = .ok (.getfield 118, 3) := by decide +kernel
theorem dX4_digest_54 : decode cX4_digest 54 = .ok (.if_icmp .ge 18, 3) := by decide +kernel
theorem dX4_digest_57 : decode cX4_digest 57 = .ok (.aload_n 0, 1) := by decide +kernel
theorem dX4_digest_58 : decode cX4_digest 58 = .ok (.lload_n 1, 1) := by decide +kernel
theorem dX4_digest_59 : decode cX4_digest 59 = .ok (.iload 4, 2) := by decide +kernel
theorem dX4_digest_61 : decode cX4_digest 61 = .ok (.iload_n 3, 1) := by decide +kernel
theorem dX4_digest_62 : decode cX4_digest 62 = .ok (.invokevirtual 241, 3) := by decide +kernel
theorem dX4_digest_65 : decode cX4_digest 65 = .ok (.lstore_n 1, 1) := by decide +kernel
theorem dX4_digest_66 : decode cX4_digest 66 = .ok (.iinc 4 1, 3) := by decide +kernel
theorem dX4_digest_69 : decode cX4_digest 69 = .ok (.goto (-24), 3) := by decide +kernel
theorem dX4_digest_72 : decode cX4_digest 72 = .ok (.iinc 3 1, 3) := by decide +kernel
theorem dX4_digest_75 : decode cX4_digest 75 = .ok (.goto (-44), 3) := by decide +kernel
theorem dX4_digest_78 : decode cX4_digest 78 = .ok (.aload_n 0, 1) := by decide +kernel
theorem dX4_digest_79 : decode cX4_digest 79 = .ok (.lload_n 1, 1) := by decide +kernel
theorem dX4_digest_80 : decode cX4_digest 80 = .ok (.invokevirtual 245, 3) := by decide +kernel
theorem dX4_digest_83 : decode cX4_digest 83 = .ok (.lstore_n 1, 1) := by decide +kernel
theorem dX4_digest_84 : decode cX4_digest 84 = .ok (.aload_n 0, 1) := by decide +kernel
theorem dX4_digest_85 : decode cX4_digest 85 = .ok (.lload_n 1, 1) := by decide +kernel
theorem dX4_digest_86 : decode cX4_digest 86 = .ok (.invokevirtual 249, 3) := by decide +kernel
theorem dX4_digest_89 : decode cX4_digest 89 = .ok (.lstore_n 1, 1) := by decide +kernel
theorem dX4_digest_90 : decode cX4_digest 90 = .ok (.iconst 0, 1) := by decide +kernel
theorem dX4_digest_91 : decode cX4_digest 91 = .ok (.istore_n 3, 1) := by decide +kernel
theorem dX4_digest_92 : decode cX4_digest 92 = .ok (.iload_n 3, 1) := by decide +kernel
theorem dX4_digest_93 : decode cX4_digest 93 = .ok (.iconst 1, 1) := by decide +kernel
theorem dX4_digest_94 : decode cX4_digest 94 = .ok (.if_icmp .gt 43, 3) := by decide +kernel
theorem dX4_digest_97 : decode cX4_digest 97 = .ok (.iconst 0, 1) := by decide +kernel
theorem dX4_digest_98 : decode cX4_digest 98 = .ok (.istore 4, 2) := by decide +kernel
theorem dX4_digest_100 : decode cX4_digest 100 = .ok (.iload 4, 2) := by decide +kernel
theorem dX4_digest_102 : decode cX4_digest 102 = .ok (.aload_n 0, 1) := by decide +kernel
theorem dX4_digest_103 : decode cX4_digest 103 = .ok (.getfield 12, 3) := by decide +kernel
theorem dX4_digest_106 : decode cX4_digest 106 = .ok (.getfield 118, 3) := by decide +kernel
theorem dX4_digest_109 : decode cX4_digest 109 = .ok (.if_icmp .ge 22, 3) := by decide +kernel
theorem dX4_digest_112 : decode cX4_digest 112 = .ok (.lload_n 1, 1) := by decide +kernel
theorem dX4_digest_113 : decode cX4_digest 113 = .ok (.aload_n 0, 1) := by decide +kernel
theorem dX4_digest_114 : decode cX4_digest 114 = .ok (.iload_n 3, 1) := by decide +kernel
theorem dX4_digest_115 : decode cX4_digest 115 = .ok (.iload 4, 2) := by decide +kernel
theorem dX4_digest_117 : decode cX4_digest 117 = .ok (.invokevirtual 252, 3) := by decide +kernel
theorem dX4_digest_120 : decode cX4_digest 120 = .ok (.i2l, 1) := by decide +kernel
theorem dX4_digest_121 : decode cX4_digest 121 = .ok (.invokestatic 237, 3) := by decide +kernel
theorem dX4_digest_124 : decode cX4_digest 124 = .ok (.lstore_n 1, 1) := by decide +kernel
theorem dX4_digest_125 : decode cX4_digest 125 = .ok (.iinc 4 1, 3) := by decide +kernel
theorem dX4_digest_128 : decode cX4_digest 128 = .ok (.goto (-28), 3) := by decide +kernel
theorem dX4_digest_131 : decode cX4_digest 131 = .ok (.iinc 3 1, 3) := by decide +kernel
theorem dX4_digest_134 : decode cX4_digest 134 = .ok (.goto (-42), 3) := by decide +kernel
theorem dX4_digest_137 : decode cX4_digest 137 = .ok (.iconst 0, 1) := by decide +kernel
theorem dX4_digest_138 : decode cX4_digest 138 = .ok (.istore_n 3, 1) := by decide +kernel
theorem dX4_digest_139 : decode cX4_digest 139 = .ok (.iload_n 3, 1) := by decide +kernel
theorem dX4_digest_140 : decode cX4_digest 140 = .ok (.bipush 8, 2) := by decide +kernel
theorem dX4_digest_142 : decode cX4_digest 142 = .ok (.if_icmp .ge 20, 3) := by decide +kernel
theorem dX4_digest_145 : decode cX4_digest 145 = .ok (.lload_n 1, 1) := by decide +kernel
theorem dX4_digest_146 : decode cX4_digest 146 = .ok (.aload_n 0, 1) := by decide +kernel
theorem dX4_digest_147 : decode cX4_digest 147 = .ok (.iload_n 3, 1) := by decide +kernel
theorem dX4_digest_148 : decode cX4_digest 148 = .ok (.invokevirtual 255, 3) := by decide +kernel
theorem dX4_digest_151 : decode cX4_digest 151 = .ok (.i2l, 1) := by decide +kernel
theorem dX4_digest_152 : decode cX4_digest 152 = .ok (.invokestatic 237, 3) := by decide +kernel
theorem dX4_digest_155 : decode cX4_digest 155 = .ok (.lstore_n 1, 1) := by decide +kernel
theorem dX4_digest_156 : decode cX4_digest 156 = .ok (.iinc 3 1, 3) := by decide +kernel
theorem dX4_digest_159 : decode cX4_digest 159 = .ok (.goto (-20), 3) := by decide +kernel
theorem dX4_digest_162 : decode cX4_digest 162 = .ok (.lload_n 1, 1) := by decide +kernel
theorem dX4_digest_163 : decode cX4_digest 163 = .ok (.aload_n 0, 1) := by decide +kernel
theorem dX4_digest_164 : decode cX4_digest 164 = .ok (.invokevirtual 258, 3) := by decide +kernel
theorem dX4_digest_167 : decode cX4_digest 167 = .ok (.i2l, 1) := by decide +kernel
theorem dX4_digest_168 : decode cX4_digest 168 = .ok (.invokestatic 237, 3) := by decide +kernel
theorem dX4_digest_171 : decode cX4_digest 171 = .ok (.lstore_n 1, 1) := by decide +kernel
theorem dX4_digest_172 : decode cX4_digest 172 = .ok (.lload_n 1, 1) := by decide +kernel
theorem dX4_digest_173 : decode cX4_digest 173 = .ok (.aload_n 0, 1) := by decide +kernel
theorem dX4_digest_174 : decode cX4_digest 174 = .ok (.iconst 0, 1) := by decide +kernel
theorem dX4_digest_175 : decode cX4_digest 175 = .ok (.invokevirtual 261, 3) := by decide +kernel
theorem dX4_digest_178 : decode cX4_digest 178 = .ok (.i2l, 1) := by decide +kernel
theorem dX4_digest_179 : decode cX4_digest 179 = .ok (.invokestatic 237, 3) := by decide +kernel
theorem dX4_digest_182 : decode cX4_digest 182 = .ok (.lstore_n 1, 1) := by decide +kernel
theorem dX4_digest_183 : decode cX4_digest 183 = .ok (.lload_n 1, 1) := by decide +kernel
theorem dX4_digest_184 : decode cX4_digest 184 = .ok (.aload_n 0, 1) := by decide +kernel
theorem dX4_digest_185 : decode cX4_digest 185 = .ok (.iconst 1, 1) := by decide +kernel
theorem dX4_digest_186 : decode cX4_digest 186 = .ok (.invokevirtual 261, 3) := by decide +kernel
theorem dX4_digest_189 : decode cX4_digest 189 = .ok (.i2l, 1) := by decide +kernel
theorem dX4_digest_190 : decode cX4_digest 190 = .ok (.invokestatic 237, 3) := by decide +kernel
theorem dX4_digest_193 : decode cX4_digest 193 = .ok (.lstore_n 1, 1) := by decide +kernel
theorem dX4_digest_194 : decode cX4_digest 194 = .ok (.lload_n 1, 1) := by decide +kernel
theorem dX4_digest_195 : decode cX4_digest 195 = .ok (.aload_n 0, 1) := by decide +kernel
theorem dX4_digest_196 : decode cX4_digest 196 = .ok (.invokevirtual 264, 3) := by decide +kernel
theorem dX4_digest_199 : decode cX4_digest 199 = .ok (.i2l, 1) := by decide +kernel
theorem dX4_digest_200 : decode cX4_digest 200 = .ok (.invokestatic 237, 3) := by decide +kernel
theorem dX4_digest_203 : decode cX4_digest 203 = .ok (.lstore_n 1, 1) := by decide +kernel
theorem dX4_digest_204 : decode cX4_digest 204 = .ok (.lload_n 1, 1) := by decide +kernel
theorem dX4_digest_205 : decode cX4_digest 205 = .ok (.aload_n 0, 1) := by decide +kernel
theorem dX4_digest_206 : decode cX4_digest 206 = .ok (.invokevirtual 267, 3) := by decide +kernel
theorem dX4_digest_209 : decode cX4_digest 209 = .ok (.invokestatic 271, 3) := by decide +kernel
theorem dX4_digest_212 : decode cX4_digest 212 = .ok (.invokestatic 237, 3) := by decide +kernel
theorem dX4_digest_215 : decode cX4_digest 215 = .ok (.lstore_n 1, 1) := by decide +kernel
theorem dX4_digest_216 : decode cX4_digest 216 = .ok (.lload_n 1, 1) := by decide +kernel
theorem dX4_digest_217 : decode cX4_digest 217 = .ok (.aload_n 0, 1) := by decide +kernel
theorem dX4_digest_218 : decode cX4_digest 218 = .ok (.getfield 33, 3) := by decide +kernel
theorem dX4_digest_221 : decode cX4_digest 221 = .ok (.getfield 124, 3) := by decide +kernel
theorem dX4_digest_224 : decode cX4_digest 224 = .ok (.i2l, 1) := by decide +kernel
theorem dX4_digest_225 : decode cX4_digest 225 = .ok (.invokestatic 237, 3) := by decide +kernel
theorem dX4_digest_228 : decode cX4_digest 228 = .ok (.lstore_n 1, 1) := by decide +kernel
theorem dX4_digest_229 : decode cX4_digest 229 = .ok (.iconst 0, 1) := by decide +kernel
theorem dX4_digest_230 : decode cX4_digest 230 = .ok (.istore_n 3, 1) := by decide +kernel
theorem dX4_digest_231 : decode cX4_digest 231 = .ok (.iload_n 3, 1) := by decide +kernel
theorem dX4_digest_232 : decode cX4_digest 232 = .ok (.aload_n 0, 1) := by decide +kernel
theorem dX4_digest_233 : decode cX4_digest 233 = .ok (.getfield 33, 3) := by decide +kernel
theorem dX4_digest_236 : decode cX4_digest 236 = .ok (.getfield 124, 3) := by decide +kernel
theorem dX4_digest_239 : decode cX4_digest 239 = .ok (.if_icmp .ge 23, 3) := by decide +kernel
theorem dX4_digest_242 : decode cX4_digest 242 = .ok (.lload_n 1, 1) := by decide +kernel
theorem dX4_digest_243 : decode cX4_digest 243 = .ok (.aload_n 0, 1) := by decide +kernel
theorem dX4_digest_244 : decode cX4_digest 244 = .ok (.getfield 33, 3) := by decide +kernel
theorem dX4_digest_247 : decode cX4_digest 247 = .ok (.iload_n 3, 1) := by decide +kernel
theorem dX4_digest_248 : decode cX4_digest 248 = .ok (.invokevirtual 275, 3) := by decide +kernel
theorem dX4_digest_251 : decode cX4_digest 251 = .ok (.i2l, 1) := by decide +kernel
theorem dX4_digest_252 : decode cX4_digest 252 = .ok (.invokestatic 237, 3) := by decide +kernel
theorem dX4_digest_255 : decode cX4_digest 255 = .ok (.lstore_n 1, 1) := by decide +kernel
theorem dX4_digest_256 : decode cX4_digest 256 = .ok (.iinc 3 1, 3) := by decide +kernel
theorem dX4_digest_259 : decode cX4_digest 259 = .ok (.goto (-28), 3) := by decide +kernel
theorem dX4_digest_262 : decode cX4_digest 262 = .ok (.lload_n 1, 1) := by decide +kernel
theorem dX4_digest_263 : decode cX4_digest 263 = .ok (.lreturn, 1) := by decide +kernel
theorem dX4_needRange_0 : decode cX4_needRange 0 = .ok (.iload_n 0, 1) := by decide +kernel
theorem dX4_needRange_1 : decode cX4_needRange 1 = .ok (.iload_n 1, 1) := by decide +kernel
theorem dX4_needRange_2 : decode cX4_needRange 2 = .ok (.if_icmp .lt 8, 3) := by decide +kernel
theorem dX4_needRange_5 : decode cX4_needRange 5 = .ok (.iload_n 0, 1) := by decide +kernel
theorem dX4_needRange_6 : decode cX4_needRange 6 = .ok (.iload_n 2, 1) := by decide +kernel
theorem dX4_needRange_7 : decode cX4_needRange 7 = .ok (.if_icmp .le 14, 3) := by decide +kernel
theorem dX4_needRange_10 : decode cX4_needRange 10 = .ok (.new 139, 3) := by decide +kernel
theorem dX4_needRange_13 : decode cX4_needRange 13 = .ok (.dup, 1) := by decide +kernel
theorem dX4_needRange_14 : decode cX4_needRange 14 = .ok (.ldc_w 278, 3) := by decide +kernel
theorem dX4_needRange_17 : decode cX4_needRange 17 = .ok (.invokespecial 143, 3) := by decide +kernel
theorem dX4_needRange_20 : decode cX4_needRange 20 = .ok (.athrow, 1) := by decide +kernel
theorem dX4_needRange_21 : decode cX4_needRange 21 = .ok (.return_, 1) := by decide +kernel
set_option maxRecDepth 20000 in
theorem ggX4_needSquare_X3_hasSquare : GoodIn wsX4_needSquare wsX3_hasSquare := goodIn_r _ [8, 9, 10, 11, 7, 12, 13, 22, 23, 24, 25] (by decide +kernel) (by decide +kernel)
set_option maxRecDepth 20000 in
theorem gX4_needSquare_X3_hasSquare : GoodIn wsX4_needSquare (wsV RX4 280 RX3 yX3_hasSquare wsX3_hasSquare) := goodIn_app (goodIn_of _ (by decide +kernel)) ggX4_needSquare_X3_hasSquare
theorem dX4_needSquare_0 : decode cX4_needSquare 0 = .ok (.aload_n 0, 1) := by decide +kernel
theorem dX4_needSquare_1 : decode cX4_needSquare 1 = .ok (.getfield 12, 3) := by decide +kernel
theorem dX4_needSquare_4 : decode cX4_needSquare 4 = .ok (.iload_n 1, 1) := by decide +kernel
theorem dX4_needSquare_5 : decode cX4_needSquare 5 = .ok (.iload_n 2, 1) := by decide +kernel
theorem dX4_needSquare_6 : decode cX4_needSquare 6 = .ok (.invokevirtual 280, 3) := by decide +kernel
theorem dX4_needSquare_9 : decode cX4_needSquare 9 = .ok (.ifCond .ne 14, 3) := by decide +kernel
theorem dX4_needSquare_12 : decode cX4_needSquare 12 = .ok (.new 284, 3) := by decide +kernel
theorem dX4_needSquare_15 : decode cX4_needSquare 15 = .ok (.dup, 1) := by decide +kernel
theorem dX4_needSquare_16 : decode cX4_needSquare 16 = .ok (.ldc_w 286, 3) := by decide +kernel
theorem dX4_needSquare_19 : decode cX4_needSquare 19 = .ok (.invokespecial 288, 3) := by decide +kernel
theorem dX4_needSquare_22 : decode cX4_needSquare 22 = .ok (.athrow, 1) := by decide +kernel
theorem dX4_needSquare_23 : decode cX4_needSquare 23 = .ok (.return_, 1) := by decide +kernel
theorem dX4_needLine_0 : decode cX4_needLine 0 = .ok (.iload_n 1, 1) := by decide +kernel
theorem dX4_needLine_1 : decode cX4_needLine 1 = .ok (.ifCond .lt 14, 3) := by decide +kernel
theorem dX4_needLine_4 : decode cX4_needLine 4 = .ok (.iload_n 1, 1) := by decide +kernel
theorem dX4_needLine_5 : decode cX4_needLine 5 = .ok (.aload_n 0, 1) := by decide +kernel
theorem dX4_needLine_6 : decode cX4_needLine 6 = .ok (.getfield 12, 3) := by decide +kernel
theorem dX4_needLine_9 : decode cX4_needLine 9 = .ok (.getfield 118, 3) := by decide +kernel
theorem dX4_needLine_12 : decode cX4_needLine 12 = .ok (.if_icmp .lt 14, 3) := by decide +kernel
theorem dX4_needLine_15 : decode cX4_needLine 15 = .ok (.new 284, 3) := by decide +kernel
theorem dX4_needLine_18 : decode cX4_needLine 18 = .ok (.dup, 1) := by decide +kernel
theorem dX4_needLine_19 : decode cX4_needLine 19 = .ok (.ldc_w 289, 3) := by decide +kernel
theorem dX4_needLine_22 : decode cX4_needLine 22 = .ok (.invokespecial 288, 3) := by decide +kernel
theorem dX4_needLine_25 : decode cX4_needLine 25 = .ok (.athrow, 1) := by decide +kernel
theorem dX4_needLine_26 : decode cX4_needLine 26 = .ok (.return_, 1) := by decide +kernel
set_option maxRecDepth 20000 in
theorem ggX4_needBlocks_X3_heightAt : GoodIn wsX4_needBlocks wsX3_heightAt := goodIn_r _ [8, 9, 10, 11, 12, 7, 13, 14, 15, 16, 17, 26, 27, 28, 29] (by decide +kernel) (by decide +kernel)
set_option maxRecDepth 20000 in
theorem gX4_needBlocks_X3_heightAt : GoodIn wsX4_needBlocks (wsV RX4 65 RX3 yX3_heightAt wsX3_heightAt) := goodIn_app (goodIn_of _ (by decide +kernel)) ggX4_needBlocks_X3_heightAt
theorem dX4_needBlocks_0 : decode cX4_needBlocks 0 = .ok (.aload_n 0, 1) := by decide +kernel
theorem dX4_needBlocks_1 : decode cX4_needBlocks 1 = .ok (.getfield 12, 3) := by decide +kernel
theorem dX4_needBlocks_4 : decode cX4_needBlocks 4 = .ok (.iload_n 1, 1) := by decide +kernel
theorem dX4_needBlocks_5 : decode cX4_needBlocks 5 = .ok (.iload_n 2, 1) := by decide +kernel
theorem dX4_needBlocks_6 : decode cX4_needBlocks 6 = .ok (.invokevirtual 65, 3) := by decide +kernel
theorem dX4_needBlocks_9 : decode cX4_needBlocks 9 = .ok (.ifCond .ne 14, 3) := by decide +kernel
theorem dX4_needBlocks_12 : decode cX4_needBlocks 12 = .ok (.new 69, 3) := by decide +kernel
theorem dX4_needBlocks_15 : decode cX4_needBlocks 15 = .ok (.dup, 1) := by decide +kernel
theorem dX4_needBlocks_16 : decode cX4_needBlocks 16 = .ok (.ldc_w 291, 3) := by decide +kernel
theorem dX4_needBlocks_19 : decode cX4_needBlocks 19 = .ok (.invokespecial 73, 3) := by decide +kernel
theorem dX4_needBlocks_22 : decode cX4_needBlocks 22 = .ok (.athrow, 1) := by decide +kernel
theorem dX4_needBlocks_23 : decode cX4_needBlocks 23 = .ok (.return_, 1) := by decide +kernel
set_option maxRecDepth 20000 in
theorem ggX4_saveState_X1_save : GoodIn wsX4_saveState wsX1_save := goodIn_r _ [8, 9, 10, 11, 12, 13, 7, 14, 15, 16, 17, 18, 19, 20, 21, 22, 23, 24, 25, 26, 27, 28, 29, 38, 39, 40, 41, 42, 43, 44] (by decide +kernel) (by decide +kernel)
set_option maxRecDepth 20000 in
theorem gX4_saveState_X1_save : GoodIn wsX4_saveState (wsV RX4 293 RX1 yX1_save wsX1_save) := goodIn_app (goodIn_of _ (by decide +kernel)) ggX4_saveState_X1_save
theorem dX4_saveState_0 : decode cX4_saveState 0 = .ok (.aload_n 0, 1) := by decide +kernel
theorem dX4_saveState_1 : decode cX4_saveState 1 = .ok (.getfield 26, 3) := by decide +kernel
theorem dX4_saveState_4 : decode cX4_saveState 4 = .ok (.aload_n 0, 1) := by decide +kernel
theorem dX4_saveState_5 : decode cX4_saveState 5 = .ok (.getfield 12, 3) := by decide +kernel
theorem dX4_saveState_8 : decode cX4_saveState 8 = .ok (.invokevirtual 293, 3) := by decide +kernel
theorem dX4_saveState_11 : decode cX4_saveState 11 = .ok (.aload_n 0, 1) := by decide +kernel
theorem dX4_saveState_12 : decode cX4_saveState 12 = .ok (.iconst 0, 1) := by decide +kernel
theorem dX4_saveState_13 : decode cX4_saveState 13 = .ok (.putfield 46, 3) := by decide +kernel
theorem dX4_saveState_16 : decode cX4_saveState 16 = .ok (.return_, 1) := by decide +kernel
set_option maxRecDepth 20000 in
theorem ggX4_drawnView_X2_draw : GoodIn wsX4_drawnView wsX2_draw := goodIn_r _ [8, 9, 10, 11, 12, 13, 14, 15, 16, 17, 18, 19, 20, 21, 22, 23, 24, 25, 26, 27, 28, 29, 30, 31, 7, 32, 33, 34, 35, 36, 37, 38, 39, 40, 41, 42, 43, 44, 45, 46, 47, 48, 49, 50, 51, 52, 53, 54, 55, 56, 57, 58, 59, 60, 61, 62, 63, 64, 65, 66, 67, 68, 69, 70, 71, 72, 73, 74, 83, 84, 85, 86, 87, 88, 89, 90, 91, 92] (by decide +kernel) (by decide +kernel)
set_option maxRecDepth 20000 in
theorem gX4_drawnView_X2_draw : GoodIn wsX4_drawnView (wsV RX4 229 RX2 yX2_draw wsX2_draw) := goodIn_app (goodIn_of _ (by decide +kernel)) ggX4_drawnView_X2_draw
theorem dX4_drawnView_0 : decode cX4_drawnView 0 = .ok (.aload_n 0, 1) := by decide +kernel
theorem dX4_drawnView_1 : decode cX4_drawnView 1 = .ok (.getfield 46, 3) := by decide +kernel
theorem dX4_drawnView_4 : decode cX4_drawnView 4 = .ok (.ifCond .ne 19, 3) := by decide +kernel
theorem dX4_drawnView_7 : decode cX4_drawnView 7 = .ok (.aload_n 0, 1) := by decide +kernel
theorem dX4_drawnView_8 : decode cX4_drawnView 8 = .ok (.getfield 19, 3) := by decide +kernel
theorem dX4_drawnView_11 : decode cX4_drawnView 11 = .ok (.aload_n 0, 1) := by decide +kernel
theorem dX4_drawnView_12 : decode cX4_drawnView 12 = .ok (.getfield 12, 3) := by decide +kernel
theorem dX4_drawnView_15 : decode cX4_drawnView 15 = .ok (.invokevirtual 229, 3) := by decide +kernel
theorem dX4_drawnView_18 : decode cX4_drawnView 18 = .ok (.aload_n 0, 1) := by decide +kernel
theorem dX4_drawnView_19 : decode cX4_drawnView 19 = .ok (.iconst 1, 1) := by decide +kernel
theorem dX4_drawnView_20 : decode cX4_drawnView 20 = .ok (.putfield 46, 3) := by decide +kernel
theorem dX4_drawnView_23 : decode cX4_drawnView 23 = .ok (.aload_n 0, 1) := by decide +kernel
theorem dX4_drawnView_24 : decode cX4_drawnView 24 = .ok (.getfield 19, 3) := by decide +kernel
theorem dX4_drawnView_27 : decode cX4_drawnView 27 = .ok (.areturn, 1) := by decide +kernel
set_option maxRecDepth 20000 in
theorem ggX4_doOrders_X0_orderEnd : GoodIn wsX4_doOrders wsX0_orderEnd := goodIn_r _ [6, 7, 8, 9, 10, 5, 11, 12, 13, 14, 15, 68, 69] (by decide +kernel) (by decide +kernel)
set_option maxRecDepth 20000 in
theorem gX4_doOrders_X0_orderEnd : GoodIn wsX4_doOrders (wsV RX4 296 RX0 yX0_orderEnd wsX0_orderEnd) := goodIn_app (goodIn_of _ (by decide +kernel)) ggX4_doOrders_X0_orderEnd
set_option maxRecDepth 20000 in
theorem ggX4_doOrders_X4_doOrder : GoodIn wsX4_doOrders wsX4_doOrder := goodIn_r _ [19, 1, 20, 21, 22, 23, 5, 24, 8, 9, 10, 11, 12, 13, 14, 15, 25, 26, 27, 28, 29, 30, 31, 32, 33, 34, 35, 36, 37, 38, 39, 40, 41, 42, 43, 44, 45, 46, 47, 48, 49, 50, 51, 52, 53, 54, 55, 56, 57, 58, 59, 60, 61, 62, 63, 64, 65, 66, 67, 68, 69, 70, 71, 72, 73] (by decide +kernel) (by decide +kernel)
set_option maxRecDepth 20000 in
theorem gX4_doOrders_X4_doOrder : GoodIn wsX4_doOrders (wsV RX4 299 RX4 yX4_doOrder wsX4_doOrder) := goodIn_app (goodIn_of _ (by decide +kernel)) ggX4_doOrders_X4_doOrder
theorem dX4_doOrders_0 : decode cX4_doOrders 0 = .ok (.iconst 0, 1) := by decide +kernel
theorem dX4_doOrders_1 : decode cX4_doOrders 1 = .ok (.istore_n 1, 1) := by decide +kernel
theorem dX4_doOrders_2 : decode cX4_doOrders 2 = .ok (.iconst 0, 1) := by decide +kernel
theorem dX4_doOrders_3 : decode cX4_doOrders 3 = .ok (.istore_n 2, 1) := by decide +kernel
theorem dX4_doOrders_4 : decode cX4_doOrders 4 = .ok (.iconst 0, 1) := by decide +kernel
theorem dX4_doOrders_5 : decode cX4_doOrders 5 = .ok (.istore_n 3, 1) := by decide +kernel
theorem dX4_doOrders_6 : decode cX4_doOrders 6 = .ok (.iload_n 3, 1) := by decide +kernel
theorem dX4_doOrders_7 : decode cX4_doOrders 7 = .ok (.bipush 60, 2) := by decide +kernel
theorem dX4_doOrders_9 : decode cX4_doOrders 9 = .ok (.if_icmp .ge 50, 3) := by decide +kernel
theorem dX4_doOrders_12 : decode cX4_doOrders 12 = .ok (.iload_n 2, 1) := by decide +kernel
theorem dX4_doOrders_13 : decode cX4_doOrders 13 = .ok (.aload_n 0, 1) := by decide +kernel
theorem dX4_doOrders_14 : decode cX4_doOrders 14 = .ok (.getfield 33, 3) := by decide +kernel
theorem dX4_doOrders_17 : decode cX4_doOrders 17 = .ok (.getfield 124, 3) := by decide +kernel
theorem dX4_doOrders_20 : decode cX4_doOrders 20 = .ok (.if_icmp .ge 39, 3) := by decide +kernel
theorem dX4_doOrders_23 : decode cX4_doOrders 23 = .ok (.aload_n 0, 1) := by decide +kernel
theorem dX4_doOrders_24 : decode cX4_doOrders 24 = .ok (.getfield 33, 3) := by decide +kernel
theorem dX4_doOrders_27 : decode cX4_doOrders 27 = .ok (.iload_n 2, 1) := by decide +kernel
theorem dX4_doOrders_28 : decode cX4_doOrders 28 = .ok (.invokevirtual 296, 3) := by decide +kernel
theorem dX4_doOrders_31 : decode cX4_doOrders 31 = .ok (.istore 4, 2) := by decide +kernel
theorem dX4_doOrders_33 : decode cX4_doOrders 33 = .ok (.aload_n 0, 1) := by decide +kernel
theorem dX4_doOrders_34 : decode cX4_doOrders 34 = .ok (.iload_n 2, 1) := by decide +kernel
theorem dX4_doOrders_35 : decode cX4_doOrders 35 = .ok (.iload 4, 2) := by decide +kernel
theorem dX4_doOrders_37 : decode cX4_doOrders 37 = .ok (.invokevirtual 299, 3) := by decide +kernel
theorem dX4_doOrders_40 : decode cX4_doOrders 40 = .ok (.ifCond .ne 5, 3) := by decide +kernel
theorem dX4_doOrders_43 : decode cX4_doOrders 43 = .ok (.iload_n 1, 1) := by decide +kernel
theorem dX4_doOrders_44 : decode cX4_doOrders 44 = .ok (.ireturn, 1) := by decide +kernel
theorem dX4_doOrders_45 : decode cX4_doOrders 45 = .ok (.iinc 1 1, 3) := by decide +kernel
theorem dX4_doOrders_48 : decode cX4_doOrders 48 = .ok (.iload 4, 2) := by decide +kernel
theorem dX4_doOrders_50 : decode cX4_doOrders 50 = .ok (.iconst 1, 1) := by decide +kernel
theorem dX4_doOrders_51 : decode cX4_doOrders 51 = .ok (.iadd, 1) := by decide +kernel
theorem dX4_doOrders_52 : decode cX4_doOrders 52 = .ok (.istore_n 2, 1) := by decide +kernel
theorem dX4_doOrders_53 : decode cX4_doOrders 53 = .ok (.iinc 3 1, 3) := by decide +kernel
theorem dX4_doOrders_56 : decode cX4_doOrders 56 = .ok (.goto (-50), 3) := by decide +kernel
theorem dX4_doOrders_59 : decode cX4_doOrders 59 = .ok (.iload_n 1, 1) := by decide +kernel
theorem dX4_doOrders_60 : decode cX4_doOrders 60 = .ok (.ireturn, 1) := by decide +kernel
set_option maxRecDepth 20000 in
theorem ggX4_doOrder_X0_digitAt : GoodIn wsX4_doOrder wsX0_digitAt := goodIn_r _ [7, 8, 9, 10, 6, 11, 12, 13, 14, 15, 59, 60] (by decide +kernel) (by decide +kernel)
set_option maxRecDepth 20000 in
theorem gX4_doOrder_X0_digitAt : GoodIn wsX4_doOrder (wsV RX4 302 RX0 yX0_digitAt wsX0_digitAt) := goodIn_app (goodIn_of _ (by decide +kernel)) ggX4_doOrder_X0_digitAt
set_option maxRecDepth 20000 in
theorem ggX4_doOrder_X3_hasSquare : GoodIn wsX4_doOrder wsX3_hasSquare := goodIn_r _ [20, 21, 22, 23, 19, 24, 25, 61, 62, 63, 64] (by decide +kernel) (by decide +kernel)
set_option maxRecDepth 20000 in
theorem gX4_doOrder_X3_hasSquare : GoodIn wsX4_doOrder (wsV RX4 280 RX3 yX3_hasSquare wsX3_hasSquare) := goodIn_app (goodIn_of _ (by decide +kernel)) ggX4_doOrder_X3_hasSquare
set_option maxRecDepth 20000 in
theorem ggX4_doOrder_X0_codeAt : GoodIn wsX4_doOrder wsX0_codeAt := goodIn_r _ [11, 12, 13, 14, 15, 59, 60] (by decide +kernel) (by decide +kernel)
set_option maxRecDepth 20000 in
theorem gX4_doOrder_X0_codeAt : GoodIn wsX4_doOrder (wsV RX4 275 RX0 yX0_codeAt wsX0_codeAt) := goodIn_app (goodIn_of _ (by decide +kernel)) ggX4_doOrder_X0_codeAt
set_option maxRecDepth 20000 in
theorem ggX4_doOrder_X4_putAll : GoodIn wsX4_doOrder wsX4_putAll := goodIn_r _ [30, 2, 1, 31, 32, 33, 19, 34, 35, 21, 22, 23, 24, 25, 13, 14, 15, 3, 4, 5, 6, 7, 8, 9, 10, 11, 12, 36, 37, 38, 39, 40, 41, 42, 51, 52, 53, 54, 55, 56, 57, 58, 61, 62, 63, 64, 59, 60] (by decide +kernel) (by decide +kernel)
set_option maxRecDepth 20000 in
theorem gX4_doOrder_X4_putAll : GoodIn wsX4_doOrder (wsV RX4 305 RX4 yX4_putAll wsX4_putAll) := goodIn_app (goodIn_of _ (by decide +kernel)) ggX4_doOrder_X4_putAll
set_option maxRecDepth 20000 in
theorem ggX4_doOrder_X4_takeAll : GoodIn wsX4_doOrder wsX4_takeAll := goodIn_r _ [46, 2, 31, 32, 33, 19, 34, 35, 21, 22, 23, 24, 25, 13, 14, 15, 47, 48, 49, 50, 40, 41, 42, 51, 52, 53, 54, 55, 56, 57, 58, 61, 62, 63, 64] (by decide +kernel) (by decide +kernel)
set_option maxRecDepth 20000 in
theorem gX4_doOrder_X4_takeAll : GoodIn wsX4_doOrder (wsV RX4 309 RX4 yX4_takeAll wsX4_takeAll) := goodIn_app (goodIn_of _ (by decide +kernel)) ggX4_doOrder_X4_takeAll
theorem dX4_doOrder_0 : decode cX4_doOrder 0 = .ok (.aload_n 0, 1) := by decide +kernel
theorem dX4_doOrder_1 : decode cX4_doOrder 1 = .ok (.getfield 33, 3) := by decide +kernel
theorem dX4_doOrder_4 : decode cX4_doOrder 4 = .ok (.iload_n 1, 1) := by decide +kernel
theorem dX4_doOrder_5 : decode cX4_doOrder 5 = .ok (.invokevirtual 302, 3) := by decide +kernel
theorem dX4_doOrder_8 : decode cX4_doOrder 8 = .ok (.istore_n 3, 1) := by decide +kernel
theorem dX4_doOrder_9 : decode cX4_doOrder 9 = .ok (.aload_n 0, 1) := by decide +kernel
theorem dX4_doOrder_10 : decode cX4_doOrder 10 = .ok (.getfield 33, 3) := by decide +kernel
theorem dX4_doOrder_13 : decode cX4_doOrder 13 = .ok (.iload_n 1, 1) := by decide +kernel
theorem dX4_doOrder_14 : decode cX4_doOrder 14 = .ok (.iconst 1, 1) := by decide +kernel
theorem dX4_doOrder_15 : decode cX4_doOrder 15 = .ok (.iadd, 1) := by decide +kernel
theorem dX4_doOrder_16 : decode cX4_doOrder 16 = .ok (.invokevirtual 302, 3) := by decide +kernel
theorem dX4_doOrder_19 : decode cX4_doOrder 19 = .ok (.istore 4, 2) := by decide +kernel
theorem dX4_doOrder_21 : decode cX4_doOrder 21 = .ok (.aload_n 0, 1) := by decide +kernel
theorem dX4_doOrder_22 : decode cX4_doOrder 22 = .ok (.getfield 12, 3) := by decide +kernel
theorem dX4_doOrder_25 : decode cX4_doOrder 25 = .ok (.iload_n 3, 1) := by decide +kernel
theorem dX4_doOrder_26 : decode cX4_doOrder 26 = .ok (.iload 4, 2) := by decide +kernel
theorem dX4_doOrder_28 : decode cX4_doOrder 28 = .ok (.invokevirtual 280, 3) := by decide +kernel
theorem dX4_doOrder_31 : decode cX4_doOrder 31 = .ok (.ifCond .ne 5, 3) := by decide +kernel
theorem dX4_doOrder_34 : decode cX4_doOrder 34 = .ok (.iconst 0, 1) := by decide +kernel
theorem dX4_doOrder_35 : decode cX4_doOrder 35 = .ok (.ireturn, 1) := by decide +kernel
theorem dX4_doOrder_36 : decode cX4_doOrder 36 = .ok (.aload_n 0, 1) := by decide +kernel
theorem dX4_doOrder_37 : decode cX4_doOrder 37 = .ok (.getfield 33, 3) := by decide +kernel
theorem dX4_doOrder_40 : decode cX4_doOrder 40 = .ok (.iload_n 1, 1) := by decide +kernel
theorem dX4_doOrder_41 : decode cX4_doOrder 41 = .ok (.iconst 2, 1) := by decide +kernel
theorem dX4_doOrder_42 : decode cX4_doOrder 42 = .ok (.iadd, 1) := by decide +kernel
theorem dX4_doOrder_43 : decode cX4_doOrder 43 = .ok (.invokevirtual 275, 3) := by decide +kernel
theorem dX4_doOrder_46 : decode cX4_doOrder 46 = .ok (.bipush 43, 2) := by decide +kernel
theorem dX4_doOrder_48 : decode cX4_doOrder 48 = .ok (.if_icmp .ne 15, 3) := by decide +kernel
theorem dX4_doOrder_51 : decode cX4_doOrder 51 = .ok (.aload_n 0, 1) := by decide +kernel
theorem dX4_doOrder_52 : decode cX4_doOrder 52 = .ok (.iload_n 3, 1) := by decide +kernel
theorem dX4_doOrder_53 : decode cX4_doOrder 53 = .ok (.iload 4, 2) := by decide +kernel
theorem dX4_doOrder_55 : decode cX4_doOrder 55 = .ok (.iload_n 1, 1) := by decide +kernel
theorem dX4_doOrder_56 : decode cX4_doOrder 56 = .ok (.iconst 3, 1) := by decide +kernel
theorem dX4_doOrder_57 : decode cX4_doOrder 57 = .ok (.iadd, 1) := by decide +kernel
theorem dX4_doOrder_58 : decode cX4_doOrder 58 = .ok (.iload_n 2, 1) := by decide +kernel
theorem dX4_doOrder_59 : decode cX4_doOrder 59 = .ok (.invokevirtual 305, 3) := by decide +kernel
theorem dX4_doOrder_62 : decode cX4_doOrder 62 = .ok (.ireturn, 1) := by decide +kernel
theorem dX4_doOrder_63 : decode cX4_doOrder 63 = .ok (.aload_n 0, 1) := by decide +kernel
theorem dX4_doOrder_64 : decode cX4_doOrder 64 = .ok (.iload_n 3, 1) := by decide +kernel
theorem dX4_doOrder_65 : decode cX4_doOrder 65 = .ok (.iload 4, 2) := by decide +kernel
theorem dX4_doOrder_67 : decode cX4_doOrder 67 = .ok (.aload_n 0, 1) := by decide +kernel
theorem dX4_doOrder_68 : decode cX4_doOrder 68 = .ok (.getfield 33, 3) := by decide +kernel
theorem dX4_doOrder_71 : decode cX4_doOrder 71 = .ok (.iload_n 1, 1) := by decide +kernel
theorem dX4_doOrder_72 : decode cX4_doOrder 72 = .ok (.iconst 3, 1) := by decide +kernel
theorem dX4_doOrder_73 : decode cX4_doOrder 73 = .ok (.iadd, 1) := by decide +kernel
theorem dX4_doOrder_74 : decode cX4_doOrder 74 = .ok (.invokevirtual 302, 3) := by decide +kernel
theorem dX4_doOrder_77 : decode cX4_doOrder 77 = .ok (.invokevirtual 309, 3) := by decide +kernel
theorem dX4_doOrder_80 : decode cX4_doOrder 80 = .ok (.ireturn, 1) := by decide +kernel
set_option maxRecDepth 20000 in
theorem ggX4_putAll_X3_heightAt : GoodIn wsX4_putAll wsX3_heightAt := goodIn_r _ [7, 8, 9, 10, 11, 6, 12, 13, 14, 15, 16, 42, 43, 44, 45] (by decide +kernel) (by decide +kernel)
set_option maxRecDepth 20000 in
theorem gX4_putAll_X3_heightAt : GoodIn wsX4_putAll (wsV RX4 65 RX3 yX3_heightAt wsX3_heightAt) := goodIn_app (goodIn_of _ (by decide +kernel)) ggX4_putAll_X3_heightAt
set_option maxRecDepth 20000 in
theorem ggX4_putAll_X0_digitAt : GoodIn wsX4_putAll wsX0_digitAt := goodIn_r _ [21, 22, 23, 24, 20, 25, 26, 14, 15, 16, 46, 47] (by decide +kernel) (by decide +kernel)
set_option maxRecDepth 20000 in
theorem gX4_putAll_X0_digitAt : GoodIn wsX4_putAll (wsV RX4 302 RX0 yX0_digitAt wsX0_digitAt) := goodIn_app (goodIn_of _ (by decide +kernel)) ggX4_putAll_X0_digitAt
set_option maxRecDepth 20000 in
theorem ggX4_putAll_X3_addBlock : GoodIn wsX4_putAll wsX3_addBlock := goodIn_r _ [30, 8, 31, 9, 10, 11, 6, 12, 13, 14, 15, 16, 32, 33, 42, 43, 44, 45] (by decide +kernel) (by decide +kernel)
set_option maxRecDepth 20000 in
theorem gX4_putAll_X3_addBlock : GoodIn wsX4_putAll (wsV RX4 76 RX3 yX3_addBlock wsX3_addBlock) := goodIn_app (goodIn_of _ (by decide +kernel)) ggX4_putAll_X3_addBlock
theorem dX4_putAll_0 : decode cX4_putAll 0 = .ok (.aload_n 0, 1) := by decide +kernel
theorem dX4_putAll_1 : decode cX4_putAll 1 = .ok (.getfield 12, 3) := by decide +kernel
theorem dX4_putAll_4 : decode cX4_putAll 4 = .ok (.iload_n 1, 1) := by decide +kernel
theorem dX4_putAll_5 : decode cX4_putAll 5 = .ok (.iload_n 2, 1) := by decide +kernel
theorem dX4_putAll_6 : decode cX4_putAll 6 = .ok (.invokevirtual 65, 3) := by decide +kernel
theorem dX4_putAll_9 : decode cX4_putAll 9 = .ok (.iload 4, 2) := by decide +kernel
theorem dX4_putAll_11 : decode cX4_putAll 11 = .ok (.iadd, 1) := by decide +kernel
theorem dX4_putAll_12 : decode cX4_putAll 12 = .ok (.iload_n 3, 1) := by decide +kernel
theorem dX4_putAll_13 : decode cX4_putAll 13 = .ok (.isub, 1) := by decide +kernel
theorem dX4_putAll_14 : decode cX4_putAll 14 = .ok (.bipush 8, 2) := by decide +kernel
theorem dX4_putAll_16 : decode cX4_putAll 16 = .ok (.if_icmp .le 5, 3) := by decide +kernel
theorem dX4_putAll_19 : decode cX4_putAll 19 = .ok (.iconst 0, 1) := by decide +kernel
theorem dX4_putAll_20 : decode cX4_putAll 20 = .ok (.ireturn, 1) := by decide +kernel
theorem dX4_putAll_21 : decode cX4_putAll 21 = .ok (.iload_n 3, 1) := by decide +kernel
theorem dX4_putAll_22 : decode cX4_putAll 22 = .ok (.istore 5, 2) := by decide +kernel
theorem dX4_putAll_24 : decode cX4_putAll 24 = .ok (.iload 5, 2) := by decide +kernel
theorem dX4_putAll_26 : decode cX4_putAll 26 = .ok (.iload 4, 2) := by decide +kernel
theorem dX4_putAll_28 : decode cX4_putAll 28 = .ok (.if_icmp .ge 27, 3) := by decide +kernel
theorem dX4_putAll_31 : decode cX4_putAll 31 = .ok (.aload_n 0, 1) := by decide +kernel
theorem dX4_putAll_32 : decode cX4_putAll 32 = .ok (.getfield 12, 3) := by decide +kernel
theorem dX4_putAll_35 : decode cX4_putAll 35 = .ok (.iload_n 1, 1) := by decide +kernel
theorem dX4_putAll_36 : decode cX4_putAll 36 = .ok (.iload_n 2, 1) := by decide +kernel
theorem dX4_putAll_37 : decode cX4_putAll 37 = .ok (.aload_n 0, 1) := by decide +kernel
theorem dX4_putAll_38 : decode cX4_putAll 38 = .ok (.getfield 33, 3) := by decide +kernel
theorem dX4_putAll_41 : decode cX4_putAll 41 = .ok (.iload 5, 2) := by decide +kernel
theorem dX4_putAll_43 : decode cX4_putAll 43 = .ok (.invokevirtual 302, 3) := by decide +kernel
theorem dX4_putAll_46 : decode cX4_putAll 46 = .ok (.invokevirtual 76, 3) := by decide +kernel
theorem dX4_putAll_49 : decode cX4_putAll 49 = .ok (.iinc 5 1, 3) := by decide +kernel
theorem dX4_putAll_52 : decode cX4_putAll 52 = .ok (.goto (-28), 3) := by decide +kernel
theorem dX4_putAll_55 : decode cX4_putAll 55 = .ok (.iconst 1, 1) := by decide +kernel
theorem dX4_putAll_56 : decode cX4_putAll 56 = .ok (.ireturn, 1) := by decide +kernel
set_option maxRecDepth 20000 in
theorem ggX4_takeAll_X3_heightAt : GoodIn wsX4_takeAll wsX3_heightAt := goodIn_r _ [6, 7, 8, 9, 10, 5, 11, 12, 13, 14, 15, 31, 32, 33, 34] (by decide +kernel) (by decide +kernel)
set_option maxRecDepth 20000 in
theorem gX4_takeAll_X3_heightAt : GoodIn wsX4_takeAll (wsV RX4 65 RX3 yX3_heightAt wsX3_heightAt) := goodIn_app (goodIn_of _ (by decide +kernel)) ggX4_takeAll_X3_heightAt
set_option maxRecDepth 20000 in
theorem ggX4_takeAll_X3_lowerTo : GoodIn wsX4_takeAll wsX3_lowerTo := goodIn_r _ [19, 7, 20, 8, 9, 10, 5, 11, 12, 13, 14, 15, 21, 22, 31, 32, 33, 34] (by decide +kernel) (by decide +kernel)
set_option maxRecDepth 20000 in
theorem gX4_takeAll_X3_lowerTo : GoodIn wsX4_takeAll (wsV RX4 96 RX3 yX3_lowerTo wsX3_lowerTo) := goodIn_app (goodIn_of _ (by decide +kernel)) ggX4_takeAll_X3_lowerTo
theorem dX4_takeAll_0 : decode cX4_takeAll 0 = .ok (.aload_n 0, 1) := by decide +kernel
theorem dX4_takeAll_1 : decode cX4_takeAll 1 = .ok (.getfield 12, 3) := by decide +kernel
theorem dX4_takeAll_4 : decode cX4_takeAll 4 = .ok (.iload_n 1, 1) := by decide +kernel
theorem dX4_takeAll_5 : decode cX4_takeAll 5 = .ok (.iload_n 2, 1) := by decide +kernel
theorem dX4_takeAll_6 : decode cX4_takeAll 6 = .ok (.invokevirtual 65, 3) := by decide +kernel
theorem dX4_takeAll_9 : decode cX4_takeAll 9 = .ok (.istore 4, 2) := by decide +kernel
theorem dX4_takeAll_11 : decode cX4_takeAll 11 = .ok (.iload 4, 2) := by decide +kernel
theorem dX4_takeAll_13 : decode cX4_takeAll 13 = .ok (.iload_n 3, 1) := by decide +kernel
theorem dX4_takeAll_14 : decode cX4_takeAll 14 = .ok (.if_icmp .ge 5, 3) := by decide +kernel
theorem dX4_takeAll_17 : decode cX4_takeAll 17 = .ok (.iconst 0, 1) := by decide +kernel
theorem dX4_takeAll_18 : decode cX4_takeAll 18 = .ok (.ireturn, 1) := by decide +kernel
theorem dX4_takeAll_19 : decode cX4_takeAll 19 = .ok (.aload_n 0, 1) := by decide +kernel
theorem dX4_takeAll_20 : decode cX4_takeAll 20 = .ok (.getfield 12, 3) := by decide +kernel
theorem dX4_takeAll_23 : decode cX4_takeAll 23 = .ok (.iload_n 1, 1) := by decide +kernel
theorem dX4_takeAll_24 : decode cX4_takeAll 24 = .ok (.iload_n 2, 1) := by decide +kernel
theorem dX4_takeAll_25 : decode cX4_takeAll 25 = .ok (.iload 4, 2) := by decide +kernel
theorem dX4_takeAll_27 : decode cX4_takeAll 27 = .ok (.iload_n 3, 1) := by decide +kernel
theorem dX4_takeAll_28 : decode cX4_takeAll 28 = .ok (.isub, 1) := by decide +kernel
theorem dX4_takeAll_29 : decode cX4_takeAll 29 = .ok (.invokevirtual 96, 3) := by decide +kernel
theorem dX4_takeAll_32 : decode cX4_takeAll 32 = .ok (.iconst 1, 1) := by decide +kernel
theorem dX4_takeAll_33 : decode cX4_takeAll 33 = .ok (.ireturn, 1) := by decide +kernel
theorem dX4_mix_0 : decode cX4_mix 0 = .ok (.ldc2_w 312, 3) := by decide +kernel
theorem dX4_mix_3 : decode cX4_mix 3 = .ok (.lload_n 0, 1) := by decide +kernel
theorem dX4_mix_4 : decode cX4_mix 4 = .ok (.lmul, 1) := by decide +kernel
theorem dX4_mix_5 : decode cX4_mix 5 = .ok (.lload_n 2, 1) := by decide +kernel
theorem dX4_mix_6 : decode cX4_mix 6 = .ok (.ladd, 1) := by decide +kernel
theorem dX4_mix_7 : decode cX4_mix 7 = .ok (.lreturn, 1) := by decide +kernel
set_option maxRecDepth 20000 in
theorem ggX4_mixSquare_X4_stack : GoodIn wsX4_mixSquare wsX4_stack := goodIn_ca (goodIn_ca (goodIn_r _ [6, 1, 7, 8, 9, 5, 10, 11, 12, 13, 14, 15, 16, 17, 18, 19, 20, 21, 22, 23, 24, 25, 26, 27, 28, 29, 30, 31, 32, 33, 34, 35, 36, 37, 38, 39, 40, 41, 42, 43, 44, 45, 46, 47, 48, 49, 50, 51, 52, 53, 54, 55, 56, 57, 58, 59, 60, 61, 62, 63, 64, 65, 66, 67, 68, 69, 70, 71, 72, 73, 74, 75, 76, 77, 78, 79, 80, 81, 82, 83, 84, 85, 86, 87, 88, 89, 90, 91, 92, 93, 94, 95, 96, 97, 98, 99, 100, 101, 102, 103, 104, 105, 106, 107, 108, 109, 110, 111, 112, 113, 114, 115, 116, 117, 167, 168, 169, 170, 171, 172, 173, 174, 175, 176, 177, 178, 179, 180, 181, 182, 183, 184] (by decide +kernel) (by decide +kernel)) (goodIn_sub (fun _ h => List.mem_cons_of_mem _ (List.mem_append_left _ (List.mem_append_right _ h))) (by decide +kernel))) (goodIn_sub (fun _ h => List.mem_cons_of_mem _ (List.mem_append_right _ h)) (by decide +kernel))
set_option maxRecDepth 20000 in
theorem gX4_mixSquare_X4_stack : GoodIn wsX4_mixSquare (wsV RX4 314 RX4 yX4_stack wsX4_stack) := goodIn_app (goodIn_of _ (by decide +kernel)) ggX4_mixSquare_X4_stack
set_option maxRecDepth 20000 in
theorem ggX4_mixSquare_X4_mix : GoodIn wsX4_mixSquare wsX4_mix := goodIn_r _ [120, 121] (by decide +kernel) (by decide +kernel)
set_option maxRecDepth 20000 in
theorem gX4_mixSquare_X4_mix : GoodIn wsX4_mixSquare (va_wsS RX4 237 yX4_mix wsX4_mix) := goodIn_app (goodIn_of _ (by decide +kernel)) ggX4_mixSquare_X4_mix
set_option maxRecDepth 20000 in
theorem ggX4_mixSquare_X3_heightAt : GoodIn wsX4_mixSquare wsX3_heightAt := goodIn_r _ [31, 32, 18, 19, 20, 16, 21, 22, 33, 5, 34, 175, 176, 177, 178] (by decide +kernel) (by decide +kernel)
set_option maxRecDepth 20000 in
theorem gX4_mixSquare_X3_heightAt : GoodIn wsX4_mixSquare (wsV RX4 65 RX3 yX3_heightAt wsX3_heightAt) := goodIn_app (goodIn_of _ (by decide +kernel)) ggX4_mixSquare_X3_heightAt
set_option maxRecDepth 20000 in
theorem ggX4_mixSquare_X4_block : GoodIn wsX4_mixSquare wsX4_block := goodIn_ca (goodIn_ca (goodIn_r _ [125, 1, 7, 8, 9, 5, 10, 11, 12, 13, 14, 15, 16, 17, 18, 19, 20, 21, 22, 23, 24, 25, 26, 27, 28, 29, 30, 31, 32, 33, 34, 126, 41, 42, 43, 44, 39, 127, 87, 88, 50, 51, 52, 53, 54, 55, 56, 57, 58, 59, 60, 61, 62, 63, 64, 65, 66, 67, 68, 69, 70, 71, 72, 73, 74, 75, 76, 77, 78, 79, 80, 81, 82, 83, 84, 85, 86, 89, 90, 91, 92, 93, 94, 95, 96, 97, 98, 99, 100, 101, 102, 103, 104, 105, 106, 107, 108, 109, 110, 111, 112, 113, 128, 129, 130, 167, 168, 169, 170, 171, 172, 173, 174, 175, 176, 177, 178, 179, 180, 181, 182, 183, 184] (by decide +kernel) (by decide +kernel)) (goodIn_sub (fun _ h => List.mem_cons_of_mem _ (List.mem_append_left _ (List.mem_append_right _ h))) (by decide +kernel))) (goodIn_sub (fun _ h => List.mem_cons_of_mem _ (List.mem_append_right _ h)) (by decide +kernel))
set_option maxRecDepth 20000 in
theorem gX4_mixSquare_X4_block : GoodIn wsX4_mixSquare (wsV RX4 317 RX4 yX4_block wsX4_block) := goodIn_app (goodIn_of _ (by decide +kernel)) ggX4_mixSquare_X4_block
set_option maxRecDepth 20000 in
theorem ggX4_mixSquare_X4_ifPut : GoodIn wsX4_mixSquare wsX4_ifPut := goodIn_ca (goodIn_ca (goodIn_r _ [134, 1, 135, 7, 8, 9, 5, 10, 11, 12, 13, 14, 15, 16, 17, 18, 19, 20, 21, 22, 23, 24, 25, 26, 27, 28, 29, 30, 31, 32, 33, 34, 50, 51, 52, 53, 54, 55, 56, 57, 58, 59, 60, 61, 62, 63, 64, 65, 66, 67, 68, 69, 70, 71, 72, 73, 74, 75, 76, 77, 78, 79, 80, 81, 82, 83, 84, 85, 86, 87, 88, 89, 90, 91, 92, 93, 94, 95, 96, 97, 98, 99, 100, 101, 102, 103, 104, 105, 106, 107, 108, 109, 110, 111, 112, 113, 136, 137, 138, 139, 140, 141, 142, 143, 144, 145, 146, 147, 148, 149, 150, 151, 152, 153, 154, 155, 156, 157, 44, 158, 159, 160, 161, 162, 163, 164, 165, 166, 46, 47, 48, 39, 49, 167, 168, 169, 170, 171, 172, 173, 174, 175, 176, 177, 178, 179, 180, 181, 182, 183, 184] (by decide +kernel) (by decide +kernel)) (goodIn_sub (fun _ h => List.mem_cons_of_mem _ (List.mem_append_left _ (List.mem_append_right _ h))) (by decide +kernel))) (goodIn_sub (fun _ h => List.mem_cons_of_mem _ (List.mem_append_right _ h)) (by decide +kernel))
set_option maxRecDepth 20000 in
theorem gX4_mixSquare_X4_ifPut : GoodIn wsX4_mixSquare (wsV RX4 321 RX4 yX4_ifPut wsX4_ifPut) := goodIn_app (goodIn_of _ (by decide +kernel)) ggX4_mixSquare_X4_ifPut
theorem dX4_mixSquare_0 : decode cX4_mixSquare 0 = .ok (.lload_n 1, 1) := by decide +kernel
theorem dX4_mixSquare_1 : decode cX4_mixSquare 1 = .ok (.lstore 5, 2) := by decide +kernel
theorem dX4_mixSquare_3 : decode cX4_mixSquare 3 = .ok (.iconst 0, 1) := by decide +kernel
theorem dX4_mixSquare_4 : decode cX4_mixSquare 4 = .ok (.istore 7, 2) := by decide +kernel
theorem dX4_mixSquare_6 : decode cX4_mixSquare 6 = .ok (.iload 7, 2) := by decide +kernel
theorem dX4_mixSquare_8 : decode cX4_mixSquare 8 = .ok (.iconst 3, 1) := by decide +kernel
theorem dX4_mixSquare_9 : decode cX4_mixSquare 9 = .ok (.if_icmp .gt 26, 3) := by decide +kernel
theorem dX4_mixSquare_12 : decode cX4_mixSquare 12 = .ok (.lload 5, 2) := by decide +kernel
theorem dX4_mixSquare_14 : decode cX4_mixSquare 14 = .ok (.aload_n 0, 1) := by decide +kernel
theorem dX4_mixSquare_15 : decode cX4_mixSquare 15 = .ok (.iload_n 3, 1) := by decide +kernel
theorem dX4_mixSquare_16 : decode cX4_mixSquare 16 = .ok (.iload 4, 2) := by decide +kernel
theorem dX4_mixSquare_18 : decode cX4_mixSquare 18 = .ok (.iload 7, 2) := by decide +kernel
theorem dX4_mixSquare_20 : decode cX4_mixSquare 20 = .ok (.invokevirtual 314, 3) := by decide +kernel
theorem dX4_mixSquare_23 : decode cX4_mixSquare 23 = .ok (.i2l, 1) := by decide +kernel
theorem dX4_mixSquare_24 : decode cX4_mixSquare 24 = .ok (.invokestatic 237, 3) := by decide +kernel
theorem dX4_mixSquare_27 : decode cX4_mixSquare 27 = .ok (.lstore 5, 2) := by decide +kernel
theorem dX4_mixSquare_29 : decode cX4_mixSquare 29 = .ok (.iinc 7 1, 3) := by decide +kernel
theorem dX4_mixSquare_32 : decode cX4_mixSquare 32 = .ok (.goto (-26), 3) := by decide +kernel
theorem dX4_mixSquare_35 : decode cX4_mixSquare 35 = .ok (.aload_n 0, 1) := by decide +kernel
theorem dX4_mixSquare_36 : decode cX4_mixSquare 36 = .ok (.getfield 12, 3) := by decide +kernel
theorem dX4_mixSquare_39 : decode cX4_mixSquare 39 = .ok (.iload_n 3, 1) := by decide +kernel
theorem dX4_mixSquare_40 : decode cX4_mixSquare 40 = .ok (.iload 4, 2) := by decide +kernel
theorem dX4_mixSquare_42 : decode cX4_mixSquare 42 = .ok (.invokevirtual 65, 3) := by decide +kernel
theorem dX4_mixSquare_45 : decode cX4_mixSquare 45 = .ok (.istore 7, 2) := by decide +kernel
theorem dX4_mixSquare_47 : decode cX4_mixSquare 47 = .ok (.iconst 0, 1) := by decide +kernel
theorem dX4_mixSquare_48 : decode cX4_mixSquare 48 = .ok (.istore 8, 2) := by decide +kernel
theorem dX4_mixSquare_50 : decode cX4_mixSquare 50 = .ok (.iload 8, 2) := by decide +kernel
theorem dX4_mixSquare_52 : decode cX4_mixSquare 52 = .ok (.iload 7, 2) := by decide +kernel
theorem dX4_mixSquare_54 : decode cX4_mixSquare 54 = .ok (.if_icmp .ge 43, 3) := by decide +kernel
theorem dX4_mixSquare_57 : decode cX4_mixSquare 57 = .ok (.iconst 0, 1) := by decide +kernel
theorem dX4_mixSquare_58 : decode cX4_mixSquare 58 = .ok (.istore 9, 2) := by decide +kernel
theorem dX4_mixSquare_60 : decode cX4_mixSquare 60 = .ok (.iload 9, 2) := by decide +kernel
theorem dX4_mixSquare_62 : decode cX4_mixSquare 62 = .ok (.iconst 4, 1) := by decide +kernel
theorem dX4_mixSquare_63 : decode cX4_mixSquare 63 = .ok (.if_icmp .gt 28, 3) := by decide +kernel
theorem dX4_mixSquare_66 : decode cX4_mixSquare 66 = .ok (.lload 5, 2) := by decide +kernel
theorem dX4_mixSquare_68 : decode cX4_mixSquare 68 = .ok (.aload_n 0, 1) := by decide +kernel
theorem dX4_mixSquare_69 : decode cX4_mixSquare 69 = .ok (.iload_n 3, 1) := by decide +kernel
theorem dX4_mixSquare_70 : decode cX4_mixSquare 70 = .ok (.iload 4, 2) := by decide +kernel
theorem dX4_mixSquare_72 : decode cX4_mixSquare 72 = .ok (.iload 8, 2) := by decide +kernel
theorem dX4_mixSquare_74 : decode cX4_mixSquare 74 = .ok (.iload 9, 2) := by decide +kernel
theorem dX4_mixSquare_76 : decode cX4_mixSquare 76 = .ok (.invokevirtual 317, 3) := by decide +kernel
theorem dX4_mixSquare_79 : decode cX4_mixSquare 79 = .ok (.i2l, 1) := by decide +kernel
theorem dX4_mixSquare_80 : decode cX4_mixSquare 80 = .ok (.invokestatic 237, 3) := by decide +kernel
theorem dX4_mixSquare_83 : decode cX4_mixSquare 83 = .ok (.lstore 5, 2) := by decide +kernel
theorem dX4_mixSquare_85 : decode cX4_mixSquare 85 = .ok (.iinc 9 1, 3) := by decide +kernel
theorem dX4_mixSquare_88 : decode cX4_mixSquare 88 = .ok (.goto (-28), 3) := by decide +kernel
theorem dX4_mixSquare_91 : decode cX4_mixSquare 91 = .ok (.iinc 8 1, 3) := by decide +kernel
theorem dX4_mixSquare_94 : decode cX4_mixSquare 94 = .ok (.goto (-44), 3) := by decide +kernel
theorem dX4_mixSquare_97 : decode cX4_mixSquare 97 = .ok (.iconst 0, 1) := by decide +kernel
theorem dX4_mixSquare_98 : decode cX4_mixSquare 98 = .ok (.istore 8, 2) := by decide +kernel
theorem dX4_mixSquare_100 : decode cX4_mixSquare 100 = .ok (.iload 8, 2) := by decide +kernel
theorem dX4_mixSquare_102 : decode cX4_mixSquare 102 = .ok (.iconst 2, 1) := by decide +kernel
theorem dX4_mixSquare_103 : decode cX4_mixSquare 103 = .ok (.if_icmp .gt 26, 3) := by decide +kernel
theorem dX4_mixSquare_106 : decode cX4_mixSquare 106 = .ok (.lload 5, 2) := by decide +kernel
theorem dX4_mixSquare_108 : decode cX4_mixSquare 108 = .ok (.aload_n 0, 1) := by decide +kernel
theorem dX4_mixSquare_109 : decode cX4_mixSquare 109 = .ok (.iload_n 3, 1) := by decide +kernel
theorem dX4_mixSquare_110 : decode cX4_mixSquare 110 = .ok (.iload 4, 2) := by decide +kernel
theorem dX4_mixSquare_112 : decode cX4_mixSquare 112 = .ok (.iload 8, 2) := by decide +kernel
theorem dX4_mixSquare_114 : decode cX4_mixSquare 114 = .ok (.invokevirtual 321, 3) := by decide +kernel
theorem dX4_mixSquare_117 : decode cX4_mixSquare 117 = .ok (.i2l, 1) := by decide +kernel
theorem dX4_mixSquare_118 : decode cX4_mixSquare 118 = .ok (.invokestatic 237, 3) := by decide +kernel
theorem dX4_mixSquare_121 : decode cX4_mixSquare 121 = .ok (.lstore 5, 2) := by decide +kernel
theorem dX4_mixSquare_123 : decode cX4_mixSquare 123 = .ok (.iinc 8 1, 3) := by decide +kernel
theorem dX4_mixSquare_126 : decode cX4_mixSquare 126 = .ok (.goto (-26), 3) := by decide +kernel
theorem dX4_mixSquare_129 : decode cX4_mixSquare 129 = .ok (.lload 5, 2) := by decide +kernel
theorem dX4_mixSquare_131 : decode cX4_mixSquare 131 = .ok (.lreturn, 1) := by decide +kernel
set_option maxRecDepth 20000 in
theorem ggX4_mixPicture_X4_picture : GoodIn wsX4_mixPicture wsX4_picture := goodIn_ca (goodIn_r _ [5, 6, 7, 8, 4, 9, 10, 11, 12, 13, 14, 15, 16, 17, 18, 19, 20, 21, 22, 23, 24, 25, 26, 27, 28, 29, 30, 31, 32, 33, 34, 35, 36, 37, 38, 39, 40, 41, 42, 43, 44, 45, 46, 47, 48, 49, 50, 51, 52, 53, 54, 55, 56, 57, 58, 59, 60, 61, 62, 63, 64, 65, 66, 67, 68, 69, 70, 71, 72, 73, 74, 75, 76, 77, 78, 79, 80, 81, 82, 83, 84, 85, 86, 87, 88, 89, 90, 91, 92, 93, 94, 95, 96, 97, 98, 99, 100, 101, 102, 103, 108, 109, 110, 111, 112, 113, 114, 115, 116, 117, 118, 119, 120, 121, 122, 123, 124, 125] (by decide +kernel) (by decide +kernel)) (goodIn_sub (fun _ h => List.mem_cons_of_mem _ (List.mem_append_right _ h)) (by decide +kernel))
set_option maxRecDepth 20000 in
theorem gX4_mixPicture_X4_picture : GoodIn wsX4_mixPicture (wsV RX4 324 RX4 yX4_picture wsX4_picture) := goodIn_app (goodIn_of _ (by decide +kernel)) ggX4_mixPicture_X4_picture
set_option maxRecDepth 20000 in
theorem ggX4_mixPicture_X4_mix : GoodIn wsX4_mixPicture wsX4_mix := goodIn_r _ [106, 107] (by decide +kernel) (by decide +kernel)
set_option maxRecDepth 20000 in
theorem gX4_mixPicture_X4_mix : GoodIn wsX4_mixPicture (va_wsS RX4 237 yX4_mix wsX4_mix) := goodIn_app (goodIn_of _ (by decide +kernel)) ggX4_mixPicture_X4_mix
theorem dX4_mixPicture_0 : decode cX4_mixPicture 0 = .ok (.lload_n 1, 1) := by decide +kernel
theorem dX4_mixPicture_1 : decode cX4_mixPicture 1 = .ok (.lstore_n 3, 1) := by decide +kernel
theorem dX4_mixPicture_2 : decode cX4_mixPicture 2 = .ok (.bipush (-9), 2) := by decide +kernel
theorem dX4_mixPicture_4 : decode cX4_mixPicture 4 = .ok (.istore 5, 2) := by decide +kernel
theorem dX4_mixPicture_6 : decode cX4_mixPicture 6 = .ok (.iload 5, 2) := by decide +kernel
theorem dX4_mixPicture_8 : decode cX4_mixPicture 8 = .ok (.bipush 6, 2) := by decide +kernel
theorem dX4_mixPicture_10 : decode cX4_mixPicture 10 = .ok (.if_icmp .gt 75, 3) := by decide +kernel
theorem dX4_mixPicture_13 : decode cX4_mixPicture 13 = .ok (.bipush (-9), 2) := by decide +kernel
theorem dX4_mixPicture_15 : decode cX4_mixPicture 15 = .ok (.istore 6, 2) := by decide +kernel
theorem dX4_mixPicture_17 : decode cX4_mixPicture 17 = .ok (.iload 6, 2) := by decide +kernel
theorem dX4_mixPicture_19 : decode cX4_mixPicture 19 = .ok (.bipush 6, 2) := by decide +kernel
theorem dX4_mixPicture_21 : decode cX4_mixPicture 21 = .ok (.if_icmp .gt 58, 3) := by decide +kernel
theorem dX4_mixPicture_24 : decode cX4_mixPicture 24 = .ok (.iconst 0, 1) := by decide +kernel
theorem dX4_mixPicture_25 : decode cX4_mixPicture 25 = .ok (.istore 7, 2) := by decide +kernel
theorem dX4_mixPicture_27 : decode cX4_mixPicture 27 = .ok (.iload 7, 2) := by decide +kernel
theorem dX4_mixPicture_29 : decode cX4_mixPicture 29 = .ok (.iconst 1, 1) := by decide +kernel
theorem dX4_mixPicture_30 : decode cX4_mixPicture 30 = .ok (.if_icmp .gt 43, 3) := by decide +kernel
theorem dX4_mixPicture_33 : decode cX4_mixPicture 33 = .ok (.lload_n 3, 1) := by decide +kernel
theorem dX4_mixPicture_34 : decode cX4_mixPicture 34 = .ok (.aload_n 0, 1) := by decide +kernel
theorem dX4_mixPicture_35 : decode cX4_mixPicture 35 = .ok (.iload 5, 2) := by decide +kernel
theorem dX4_mixPicture_37 : decode cX4_mixPicture 37 = .ok (.iload 6, 2) := by decide +kernel
theorem dX4_mixPicture_39 : decode cX4_mixPicture 39 = .ok (.iload 7, 2) := by decide +kernel
theorem dX4_mixPicture_41 : decode cX4_mixPicture 41 = .ok (.iconst 0, 1) := by decide +kernel
theorem dX4_mixPicture_42 : decode cX4_mixPicture 42 = .ok (.invokevirtual 324, 3) := by decide +kernel
theorem dX4_mixPicture_45 : decode cX4_mixPicture 45 = .ok (.i2l, 1) := by decide +kernel
theorem dX4_mixPicture_46 : decode cX4_mixPicture 46 = .ok (.invokestatic 237, 3) := by decide +kernel
theorem dX4_mixPicture_49 : decode cX4_mixPicture 49 = .ok (.lstore_n 3, 1) := by decide +kernel
theorem dX4_mixPicture_50 : decode cX4_mixPicture 50 = .ok (.lload_n 3, 1) := by decide +kernel
theorem dX4_mixPicture_51 : decode cX4_mixPicture 51 = .ok (.aload_n 0, 1) := by decide +kernel
theorem dX4_mixPicture_52 : decode cX4_mixPicture 52 = .ok (.iload 5, 2) := by decide +kernel
theorem dX4_mixPicture_54 : decode cX4_mixPicture 54 = .ok (.iload 6, 2) := by decide +kernel
theorem dX4_mixPicture_56 : decode cX4_mixPicture 56 = .ok (.iload 7, 2) := by decide +kernel
theorem dX4_mixPicture_58 : decode cX4_mixPicture 58 = .ok (.iconst 3, 1) := by decide +kernel
theorem dX4_mixPicture_59 : decode cX4_mixPicture 59 = .ok (.invokevirtual 324, 3) := by decide +kernel
theorem dX4_mixPicture_62 : decode cX4_mixPicture 62 = .ok (.i2l, 1) := by decide +kernel
theorem dX4_mixPicture_63 : decode cX4_mixPicture 63 = .ok (.invokestatic 237, 3) := by decide +kernel
theorem dX4_mixPicture_66 : decode cX4_mixPicture 66 = .ok (.lstore_n 3, 1) := by decide +kernel
theorem dX4_mixPicture_67 : decode cX4_mixPicture 67 = .ok (.iinc 7 1, 3) := by decide +kernel
theorem dX4_mixPicture_70 : decode cX4_mixPicture 70 = .ok (.goto (-43), 3) := by decide +kernel
theorem dX4_mixPicture_73 : decode cX4_mixPicture 73 = .ok (.iinc 6 1, 3) := by decide +kernel
theorem dX4_mixPicture_76 : decode cX4_mixPicture 76 = .ok (.goto (-59), 3) := by decide +kernel
theorem dX4_mixPicture_79 : decode cX4_mixPicture 79 = .ok (.iinc 5 1, 3) := by decide +kernel
theorem dX4_mixPicture_82 : decode cX4_mixPicture 82 = .ok (.goto (-76), 3) := by decide +kernel
theorem dX4_mixPicture_85 : decode cX4_mixPicture 85 = .ok (.lload_n 3, 1) := by decide +kernel
theorem dX4_mixPicture_86 : decode cX4_mixPicture 86 = .ok (.lreturn, 1) := by decide +kernel
set_option maxRecDepth 20000 in
theorem ggX4_mixElevations_X4_elevation : GoodIn wsX4_mixElevations wsX4_elevation := goodIn_ca (goodIn_ca (goodIn_r _ [6, 1, 7, 8, 9, 5, 10, 11, 12, 13, 14, 15, 16, 17, 18, 19, 20, 21, 22, 23, 24, 25, 26, 27, 28, 29, 30, 31, 32, 33, 34, 35, 36, 37, 38, 39, 40, 41, 42, 43, 44, 45, 46, 47, 48, 49, 50, 55, 56, 57, 58, 59, 60, 61, 62, 63, 64, 65, 66] (by decide +kernel) (by decide +kernel)) (goodIn_sub (fun _ h => List.mem_cons_of_mem _ (List.mem_append_left _ (List.mem_append_right _ h))) (by decide +kernel))) (goodIn_sub (fun _ h => List.mem_cons_of_mem _ (List.mem_append_right _ h)) (by decide +kernel))
set_option maxRecDepth 20000 in
theorem gX4_mixElevations_X4_elevation : GoodIn wsX4_mixElevations (wsV RX4 327 RX4 yX4_elevation wsX4_elevation) := goodIn_app (goodIn_of _ (by decide +kernel)) ggX4_mixElevations_X4_elevation
set_option maxRecDepth 20000 in
theorem ggX4_mixElevations_X4_mix : GoodIn wsX4_mixElevations wsX4_mix := goodIn_r _ [53, 54] (by decide +kernel) (by decide +kernel)
set_option maxRecDepth 20000 in
theorem gX4_mixElevations_X4_mix : GoodIn wsX4_mixElevations (va_wsS RX4 237 yX4_mix wsX4_mix) := goodIn_app (goodIn_of _ (by decide +kernel)) ggX4_mixElevations_X4_mix
theorem dX4_mixElevations_0 : decode cX4_mixElevations 0 = .ok (.lload_n 1, 1) := by decide +kernel
theorem dX4_mixElevations_1 : decode cX4_mixElevations 1 = .ok (.lstore_n 3, 1) := by decide +kernel
theorem dX4_mixElevations_2 : decode cX4_mixElevations 2 = .ok (.iconst 0, 1) := by decide +kernel
theorem dX4_mixElevations_3 : decode cX4_mixElevations 3 = .ok (.istore 5, 2) := by decide +kernel
theorem dX4_mixElevations_5 : decode cX4_mixElevations 5 = .ok (.iload 5, 2) := by decide +kernel
theorem dX4_mixElevations_7 : decode cX4_mixElevations 7 = .ok (.iconst 1, 1) := by decide +kernel
theorem dX4_mixElevations_8 : decode cX4_mixElevations 8 = .ok (.if_icmp .gt 61, 3) := by decide +kernel
theorem dX4_mixElevations_11 : decode cX4_mixElevations 11 = .ok (.iconst 0, 1) := by decide +kernel
theorem dX4_mixElevations_12 : decode cX4_mixElevations 12 = .ok (.istore 6, 2) := by decide +kernel
theorem dX4_mixElevations_14 : decode cX4_mixElevations 14 = .ok (.iload 6, 2) := by decide +kernel
theorem dX4_mixElevations_16 : decode cX4_mixElevations 16 = .ok (.aload_n 0, 1) := by decide +kernel
theorem dX4_mixElevations_17 : decode cX4_mixElevations 17 = .ok (.getfield 12, 3) := by decide +kernel
theorem dX4_mixElevations_20 : decode cX4_mixElevations 20 = .ok (.getfield 118, 3) := by decide +kernel
theorem dX4_mixElevations_23 : decode cX4_mixElevations 23 = .ok (.if_icmp .ge 40, 3) := by decide +kernel
theorem dX4_mixElevations_26 : decode cX4_mixElevations 26 = .ok (.iconst 0, 1) := by decide +kernel
theorem dX4_mixElevations_27 : decode cX4_mixElevations 27 = .ok (.istore 7, 2) := by decide +kernel
theorem dX4_mixElevations_29 : decode cX4_mixElevations 29 = .ok (.iload 7, 2) := by decide +kernel
theorem dX4_mixElevations_31 : decode cX4_mixElevations 31 = .ok (.iconst 2, 1) := by decide +kernel
theorem dX4_mixElevations_32 : decode cX4_mixElevations 32 = .ok (.if_icmp .gt 25, 3) := by decide +kernel
theorem dX4_mixElevations_35 : decode cX4_mixElevations 35 = .ok (.lload_n 3, 1) := by decide +kernel
theorem dX4_mixElevations_36 : decode cX4_mixElevations 36 = .ok (.aload_n 0, 1) := by decide +kernel
theorem dX4_mixElevations_37 : decode cX4_mixElevations 37 = .ok (.iload 5, 2) := by decide +kernel
theorem dX4_mixElevations_39 : decode cX4_mixElevations 39 = .ok (.iload 6, 2) := by decide +kernel
theorem dX4_mixElevations_41 : decode cX4_mixElevations 41 = .ok (.iload 7, 2) := by decide +kernel
theorem dX4_mixElevations_43 : decode cX4_mixElevations 43 = .ok (.invokevirtual 327, 3) := by decide +kernel
theorem dX4_mixElevations_46 : decode cX4_mixElevations 46 = .ok (.i2l, 1) := by decide +kernel
theorem dX4_mixElevations_47 : decode cX4_mixElevations 47 = .ok (.invokestatic 237, 3) := by decide +kernel
theorem dX4_mixElevations_50 : decode cX4_mixElevations 50 = .ok (.lstore_n 3, 1) := by decide +kernel
theorem dX4_mixElevations_51 : decode cX4_mixElevations 51 = .ok (.iinc 7 1, 3) := by decide +kernel
theorem dX4_mixElevations_54 : decode cX4_mixElevations 54 = .ok (.goto (-25), 3) := by decide +kernel
theorem dX4_mixElevations_57 : decode cX4_mixElevations 57 = .ok (.iinc 6 1, 3) := by decide +kernel
theorem dX4_mixElevations_60 : decode cX4_mixElevations 60 = .ok (.goto (-46), 3) := by decide +kernel
theorem dX4_mixElevations_63 : decode cX4_mixElevations 63 = .ok (.iinc 5 1, 3) := by decide +kernel
theorem dX4_mixElevations_66 : decode cX4_mixElevations 66 = .ok (.goto (-61), 3) := by decide +kernel
theorem dX4_mixElevations_69 : decode cX4_mixElevations 69 = .ok (.lload_n 3, 1) := by decide +kernel
theorem dX4_mixElevations_70 : decode cX4_mixElevations 70 = .ok (.lreturn, 1) := by decide +kernel
theorem dX4_bitsOf_0 : decode cX4_bitsOf 0 = .ok (.dload_n 0, 1) := by decide +kernel
theorem dX4_bitsOf_1 : decode cX4_bitsOf 1 = .ok (.dconst 0, 1) := by decide +kernel
theorem dX4_bitsOf_2 : decode cX4_bitsOf 2 = .ok (.dcmp .g, 1) := by decide +kernel
theorem dX4_bitsOf_3 : decode cX4_bitsOf 3 = .ok (.ifCond .gt 5, 3) := by decide +kernel
theorem dX4_bitsOf_6 : decode cX4_bitsOf 6 = .ok (.lconst 0, 1) := by decide +kernel
theorem dX4_bitsOf_7 : decode cX4_bitsOf 7 = .ok (.lreturn, 1) := by decide +kernel
theorem dX4_bitsOf_8 : decode cX4_bitsOf 8 = .ok (.dload_n 0, 1) := by decide +kernel
theorem dX4_bitsOf_9 : decode cX4_bitsOf 9 = .ok (.dstore_n 2, 1) := by decide +kernel
theorem dX4_bitsOf_10 : decode cX4_bitsOf 10 = .ok (.ldc2_w 330, 3) := by decide +kernel
theorem dX4_bitsOf_13 : decode cX4_bitsOf 13 = .ok (.lstore 4, 2) := by decide +kernel
theorem dX4_bitsOf_15 : decode cX4_bitsOf 15 = .ok (.iconst 0, 1) := by decide +kernel
theorem dX4_bitsOf_16 : decode cX4_bitsOf 16 = .ok (.istore 6, 2) := by decide +kernel
theorem dX4_bitsOf_18 : decode cX4_bitsOf 18 = .ok (.iload 6, 2) := by decide +kernel
theorem dX4_bitsOf_20 : decode cX4_bitsOf 20 = .ok (.i2l, 1) := by decide +kernel
theorem dX4_bitsOf_21 : decode cX4_bitsOf 21 = .ok (.ldc2_w 330, 3) := by decide +kernel
theorem dX4_bitsOf_24 : decode cX4_bitsOf 24 = .ok (.lcmp, 1) := by decide +kernel
theorem dX4_bitsOf_25 : decode cX4_bitsOf 25 = .ok (.ifCond .ge 27, 3) := by decide +kernel
theorem dX4_bitsOf_28 : decode cX4_bitsOf 28 = .ok (.dload_n 2, 1) := by decide +kernel
theorem dX4_bitsOf_29 : decode cX4_bitsOf 29 = .ok (.dconst 1, 1) := by decide +kernel
theorem dX4_bitsOf_30 : decode cX4_bitsOf 30 = .ok (.dcmp .g, 1) := by decide +kernel
theorem dX4_bitsOf_31 : decode cX4_bitsOf 31 = .ok (.ifCond .ge 21, 3) := by decide +kernel
theorem dX4_bitsOf_34 : decode cX4_bitsOf 34 = .ok (.dload_n 2, 1) := by decide +kernel
theorem dX4_bitsOf_35 : decode cX4_bitsOf 35 = .ok (.ldc2_w 332, 3) := by decide +kernel
theorem dX4_bitsOf_38 : decode cX4_bitsOf 38 = .ok (.dmul, 1) := by decide +kernel
theorem dX4_bitsOf_39 : decode cX4_bitsOf 39 = .ok (.dstore_n 2, 1) := by decide +kernel
theorem dX4_bitsOf_40 : decode cX4_bitsOf 40 = .ok (.lload 4, 2) := by decide +kernel
theorem dX4_bitsOf_42 : decode cX4_bitsOf 42 = .ok (.lconst 1, 1) := by decide +kernel
theorem dX4_bitsOf_43 : decode cX4_bitsOf 43 = .ok (.lsub, 1) := by decide +kernel
theorem dX4_bitsOf_44 : decode cX4_bitsOf 44 = .ok (.lstore 4, 2) := by decide +kernel
theorem dX4_bitsOf_46 : decode cX4_bitsOf 46 = .ok (.iinc 6 1, 3) := by decide +kernel
theorem dX4_bitsOf_49 : decode cX4_bitsOf 49 = .ok (.goto (-31), 3) := by decide +kernel
theorem dX4_bitsOf_52 : decode cX4_bitsOf 52 = .ok (.lload 4, 2) := by decide +kernel
theorem dX4_bitsOf_54 : decode cX4_bitsOf 54 = .ok (.bipush 52, 2) := by decide +kernel
theorem dX4_bitsOf_56 : decode cX4_bitsOf 56 = .ok (.lshl, 1) := by decide +kernel
theorem dX4_bitsOf_57 : decode cX4_bitsOf 57 = .ok (.dload_n 2, 1) := by decide +kernel
theorem dX4_bitsOf_58 : decode cX4_bitsOf 58 = .ok (.dconst 1, 1) := by decide +kernel
theorem dX4_bitsOf_59 : decode cX4_bitsOf 59 = .ok (.dsub, 1) := by decide +kernel
theorem dX4_bitsOf_60 : decode cX4_bitsOf 60 = .ok (.ldc2_w 334, 3) := by decide +kernel
theorem dX4_bitsOf_63 : decode cX4_bitsOf 63 = .ok (.dmul, 1) := by decide +kernel
theorem dX4_bitsOf_64 : decode cX4_bitsOf 64 = .ok (.d2l, 1) := by decide +kernel
theorem dX4_bitsOf_65 : decode cX4_bitsOf 65 = .ok (.ladd, 1) := by decide +kernel
theorem dX4_bitsOf_66 : decode cX4_bitsOf 66 = .ok (.lreturn, 1) := by decide +kernel
theorem dX4_valueAt_0 : decode cX4_valueAt 0 = .ok (.iload_n 1, 1) := by decide +kernel
theorem dX4_valueAt_1 : decode cX4_valueAt 1 = .ok (.ifCond .lt 15, 3) := by decide +kernel
theorem dX4_valueAt_4 : decode cX4_valueAt 4 = .ok (.iload_n 1, 1) := by decide +kernel
theorem dX4_valueAt_5 : decode cX4_valueAt 5 = .ok (.aload_n 0, 1) := by decide +kernel
theorem dX4_valueAt_6 : decode cX4_valueAt 6 = .ok (.arraylength, 1) := by decide +kernel
theorem dX4_valueAt_7 : decode cX4_valueAt 7 = .ok (.if_icmp .ge 9, 3) := by decide +kernel
theorem dX4_valueAt_10 : decode cX4_valueAt 10 = .ok (.aload_n 0, 1) := by decide +kernel
theorem dX4_valueAt_11 : decode cX4_valueAt 11 = .ok (.iload_n 1, 1) := by decide +kernel
theorem dX4_valueAt_12 : decode cX4_valueAt 12 = .ok (.iaload, 1) := by decide +kernel
theorem dX4_valueAt_13 : decode cX4_valueAt 13 = .ok (.goto 4, 3) := by decide +kernel
theorem dX4_valueAt_16 : decode cX4_valueAt 16 = .ok (.iconst 0, 1) := by decide +kernel
theorem dX4_valueAt_17 : decode cX4_valueAt 17 = .ok (.ireturn, 1) := by decide +kernel
theorem dX4_setAt_0 : decode cX4_setAt 0 = .ok (.iload_n 1, 1) := by decide +kernel
theorem dX4_setAt_1 : decode cX4_setAt 1 = .ok (.ifCond .lt 13, 3) := by decide +kernel
theorem dX4_setAt_4 : decode cX4_setAt 4 = .ok (.iload_n 1, 1) := by decide +kernel
theorem dX4_setAt_5 : decode cX4_setAt 5 = .ok (.aload_n 0, 1) := by decide +kernel
theorem dX4_setAt_6 : decode cX4_setAt 6 = .ok (.arraylength, 1) := by decide +kernel
theorem dX4_setAt_7 : decode cX4_setAt 7 = .ok (.if_icmp .ge 7, 3) := by decide +kernel
theorem dX4_setAt_10 : decode cX4_setAt 10 = .ok (.aload_n 0, 1) := by decide +kernel
theorem dX4_setAt_11 : decode cX4_setAt 11 = .ok (.iload_n 1, 1) := by decide +kernel
theorem dX4_setAt_12 : decode cX4_setAt 12 = .ok (.iload_n 2, 1) := by decide +kernel
theorem dX4_setAt_13 : decode cX4_setAt 13 = .ok (.iastore, 1) := by decide +kernel
theorem dX4_setAt_14 : decode cX4_setAt 14 = .ok (.return_, 1) := by decide +kernel
theorem dX4_blockNumber_0 : decode cX4_blockNumber 0 = .ok (.iload_n 2, 1) := by decide +kernel
theorem dX4_blockNumber_1 : decode cX4_blockNumber 1 = .ok (.bipush 36, 2) := by decide +kernel
theorem dX4_blockNumber_3 : decode cX4_blockNumber 3 = .ok (.imul, 1) := by decide +kernel
theorem dX4_blockNumber_4 : decode cX4_blockNumber 4 = .ok (.iload_n 1, 1) := by decide +kernel
theorem dX4_blockNumber_5 : decode cX4_blockNumber 5 = .ok (.bipush 6, 2) := by decide +kernel
theorem dX4_blockNumber_7 : decode cX4_blockNumber 7 = .ok (.imul, 1) := by decide +kernel
theorem dX4_blockNumber_8 : decode cX4_blockNumber 8 = .ok (.iadd, 1) := by decide +kernel
theorem dX4_blockNumber_9 : decode cX4_blockNumber 9 = .ok (.iload_n 0, 1) := by decide +kernel
theorem dX4_blockNumber_10 : decode cX4_blockNumber 10 = .ok (.iadd, 1) := by decide +kernel
theorem dX4_blockNumber_11 : decode cX4_blockNumber 11 = .ok (.ireturn, 1) := by decide +kernel
theorem dX4_columnOf_0 : decode cX4_columnOf 0 = .ok (.iload_n 0, 1) := by decide +kernel
theorem dX4_columnOf_1 : decode cX4_columnOf 1 = .ok (.bipush 6, 2) := by decide +kernel
theorem dX4_columnOf_3 : decode cX4_columnOf 3 = .ok (.irem, 1) := by decide +kernel
theorem dX4_columnOf_4 : decode cX4_columnOf 4 = .ok (.ireturn, 1) := by decide +kernel
theorem dX4_rowOf_0 : decode cX4_rowOf 0 = .ok (.iload_n 0, 1) := by decide +kernel
theorem dX4_rowOf_1 : decode cX4_rowOf 1 = .ok (.bipush 6, 2) := by decide +kernel
theorem dX4_rowOf_3 : decode cX4_rowOf 3 = .ok (.idiv, 1) := by decide +kernel
theorem dX4_rowOf_4 : decode cX4_rowOf 4 = .ok (.bipush 6, 2) := by decide +kernel
theorem dX4_rowOf_6 : decode cX4_rowOf 6 = .ok (.irem, 1) := by decide +kernel
theorem dX4_rowOf_7 : decode cX4_rowOf 7 = .ok (.ireturn, 1) := by decide +kernel
theorem dX4_heightOf_0 : decode cX4_heightOf 0 = .ok (.iload_n 0, 1) := by decide +kernel
theorem dX4_heightOf_1 : decode cX4_heightOf 1 = .ok (.bipush 36, 2) := by decide +kernel
theorem dX4_heightOf_3 : decode cX4_heightOf 3 = .ok (.idiv, 1) := by decide +kernel
theorem dX4_heightOf_4 : decode cX4_heightOf 4 = .ok (.ireturn, 1) := by decide +kernel
theorem dX4_faceNumber_0 : decode cX4_faceNumber 0 = .ok (.iload_n 0, 1) := by decide +kernel
theorem dX4_faceNumber_1 : decode cX4_faceNumber 1 = .ok (.iconst 3, 1) := by decide +kernel
theorem dX4_faceNumber_2 : decode cX4_faceNumber 2 = .ok (.imul, 1) := by decide +kernel
theorem dX4_faceNumber_3 : decode cX4_faceNumber 3 = .ok (.iload_n 1, 1) := by decide +kernel
theorem dX4_faceNumber_4 : decode cX4_faceNumber 4 = .ok (.iadd, 1) := by decide +kernel
theorem dX4_faceNumber_5 : decode cX4_faceNumber 5 = .ok (.ireturn, 1) := by decide +kernel
theorem dX4_triangleNumber_0 : decode cX4_triangleNumber 0 = .ok (.iload_n 0, 1) := by decide +kernel
theorem dX4_triangleNumber_1 : decode cX4_triangleNumber 1 = .ok (.bipush (-9), 2) := by decide +kernel
theorem dX4_triangleNumber_3 : decode cX4_triangleNumber 3 = .ok (.isub, 1) := by decide +kernel
theorem dX4_triangleNumber_4 : decode cX4_triangleNumber 4 = .ok (.bipush 16, 2) := by decide +kernel
theorem dX4_triangleNumber_6 : decode cX4_triangleNumber 6 = .ok (.imul, 1) := by decide +kernel
theorem dX4_triangleNumber_7 : decode cX4_triangleNumber 7 = .ok (.iload_n 1, 1) := by decide +kernel
theorem dX4_triangleNumber_8 : decode cX4_triangleNumber 8 = .ok (.iadd, 1) := by decide +kernel
theorem dX4_triangleNumber_9 : decode cX4_triangleNumber 9 = .ok (.bipush (-9), 2) := by decide +kernel
theorem dX4_triangleNumber_11 : decode cX4_triangleNumber 11 = .ok (.isub, 1) := by decide +kernel
theorem dX4_triangleNumber_12 : decode cX4_triangleNumber 12 = .ok (.iconst 2, 1) := by decide +kernel
theorem dX4_triangleNumber_13 : decode cX4_triangleNumber 13 = .ok (.imul, 1) := by decide +kernel
theorem dX4_triangleNumber_14 : decode cX4_triangleNumber 14 = .ok (.iload_n 2, 1) := by decide +kernel
theorem dX4_triangleNumber_15 : decode cX4_triangleNumber 15 = .ok (.iadd, 1) := by decide +kernel
theorem dX4_triangleNumber_16 : decode cX4_triangleNumber 16 = .ok (.ireturn, 1) := by decide +kernel
set_option maxRecDepth 20000 in
theorem ggX4_triangleOfBlock_X4_valueAt : GoodIn wsX4_triangleOfBlock wsX4_valueAt := goodIn_r _ [7] (by decide +kernel) (by decide +kernel)
set_option maxRecDepth 20000 in
theorem gX4_triangleOfBlock_X4_valueAt : GoodIn wsX4_triangleOfBlock (va_wsS RX4 340 yX4_valueAt wsX4_valueAt) := goodIn_app (goodIn_of _ (by decide +kernel)) ggX4_triangleOfBlock_X4_valueAt
set_option maxRecDepth 20000 in
theorem ggX4_triangleOfBlock_X4_triangleNumber : GoodIn wsX4_triangleOfBlock wsX4_triangleNumber := goodIn_r _ [10] (by decide +kernel) (by decide +kernel)
set_option maxRecDepth 20000 in
theorem gX4_triangleOfBlock_X4_triangleNumber : GoodIn wsX4_triangleOfBlock (va_wsS RX4 173 yX4_triangleNumber wsX4_triangleNumber) := goodIn_app (goodIn_of _ (by decide +kernel)) ggX4_triangleOfBlock_X4_triangleNumber
theorem dX4_triangleOfBlock_0 : decode cX4_triangleOfBlock 0 = .ok (.iload_n 0, 1) := by decide +kernel
theorem dX4_triangleOfBlock_1 : decode cX4_triangleOfBlock 1 = .ok (.iload_n 2, 1) := by decide +kernel
theorem dX4_triangleOfBlock_2 : decode cX4_triangleOfBlock 2 = .ok (.isub, 1) := by decide +kernel
theorem dX4_triangleOfBlock_3 : decode cX4_triangleOfBlock 3 = .ok (.getstatic 336, 3) := by decide +kernel
theorem dX4_triangleOfBlock_6 : decode cX4_triangleOfBlock 6 = .ok (.iload_n 3, 1) := by decide +kernel
theorem dX4_triangleOfBlock_7 : decode cX4_triangleOfBlock 7 = .ok (.invokestatic 340, 3) := by decide +kernel
theorem dX4_triangleOfBlock_10 : decode cX4_triangleOfBlock 10 = .ok (.iadd, 1) := by decide +kernel
theorem dX4_triangleOfBlock_11 : decode cX4_triangleOfBlock 11 = .ok (.istore 4, 2) := by decide +kernel
theorem dX4_triangleOfBlock_13 : decode cX4_triangleOfBlock 13 = .ok (.iload_n 1, 1) := by decide +kernel
theorem dX4_triangleOfBlock_14 : decode cX4_triangleOfBlock 14 = .ok (.iload_n 2, 1) := by decide +kernel
theorem dX4_triangleOfBlock_15 : decode cX4_triangleOfBlock 15 = .ok (.isub, 1) := by decide +kernel
theorem dX4_triangleOfBlock_16 : decode cX4_triangleOfBlock 16 = .ok (.getstatic 344, 3) := by decide +kernel
theorem dX4_triangleOfBlock_19 : decode cX4_triangleOfBlock 19 = .ok (.iload_n 3, 1) := by decide +kernel
theorem dX4_triangleOfBlock_20 : decode cX4_triangleOfBlock 20 = .ok (.invokestatic 340, 3) := by decide +kernel
theorem dX4_triangleOfBlock_23 : decode cX4_triangleOfBlock 23 = .ok (.iadd, 1) := by decide +kernel
theorem dX4_triangleOfBlock_24 : decode cX4_triangleOfBlock 24 = .ok (.istore 5, 2) := by decide +kernel
theorem dX4_triangleOfBlock_26 : decode cX4_triangleOfBlock 26 = .ok (.iload 4, 2) := by decide +kernel
theorem dX4_triangleOfBlock_28 : decode cX4_triangleOfBlock 28 = .ok (.iload 5, 2) := by decide +kernel
theorem dX4_triangleOfBlock_30 : decode cX4_triangleOfBlock 30 = .ok (.getstatic 347, 3) := by decide +kernel
theorem dX4_triangleOfBlock_33 : decode cX4_triangleOfBlock 33 = .ok (.iload_n 3, 1) := by decide +kernel
theorem dX4_triangleOfBlock_34 : decode cX4_triangleOfBlock 34 = .ok (.invokestatic 340, 3) := by decide +kernel
theorem dX4_triangleOfBlock_37 : decode cX4_triangleOfBlock 37 = .ok (.invokestatic 173, 3) := by decide +kernel
theorem dX4_triangleOfBlock_40 : decode cX4_triangleOfBlock 40 = .ok (.ireturn, 1) := by decide +kernel
