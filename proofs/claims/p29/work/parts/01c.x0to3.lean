theorem dX0_init_0 : decode cX0_init 0 = .ok (.aload_n 0, 1) := by decide +kernel
theorem dX0_init_1 : decode cX0_init 1 = .ok (.invokespecial 3, 3) := by decide +kernel
theorem dX0_init_4 : decode cX0_init 4 = .ok (.aload_n 0, 1) := by decide +kernel
theorem dX0_init_5 : decode cX0_init 5 = .ok (.bipush 60, 2) := by decide +kernel
theorem dX0_init_7 : decode cX0_init 7 = .ok (.newarray .int, 2) := by decide +kernel
theorem dX0_init_9 : decode cX0_init 9 = .ok (.putfield 9, 3) := by decide +kernel
theorem dX0_init_12 : decode cX0_init 12 = .ok (.aload_n 0, 1) := by decide +kernel
theorem dX0_init_13 : decode cX0_init 13 = .ok (.iconst 0, 1) := by decide +kernel
theorem dX0_init_14 : decode cX0_init 14 = .ok (.putfield 15, 3) := by decide +kernel
theorem dX0_init_17 : decode cX0_init 17 = .ok (.return_, 1) := by decide +kernel
set_option maxRecDepth 20000 in
theorem ggX1_init_X3_init : GoodIn wsX1_init wsX3_init := goodIn_r _ [12, 13, 2, 3, 14, 15, 16, 17, 18, 22, 23, 24, 25] (by decide +kernel) (by decide +kernel)
set_option maxRecDepth 20000 in
theorem gX1_init_X3_init : GoodIn wsX1_init (wsX3_init) := ggX1_init_X3_init
theorem dX1_init_0 : decode cX1_init 0 = .ok (.aload_n 0, 1) := by decide +kernel
theorem dX1_init_1 : decode cX1_init 1 = .ok (.invokespecial 3, 3) := by decide +kernel
theorem dX1_init_4 : decode cX1_init 4 = .ok (.aload_n 0, 1) := by decide +kernel
theorem dX1_init_5 : decode cX1_init 5 = .ok (.bipush 6, 2) := by decide +kernel
theorem dX1_init_7 : decode cX1_init 7 = .ok (.anewarray 9, 3) := by decide +kernel
theorem dX1_init_10 : decode cX1_init 10 = .ok (.putfield 11, 3) := by decide +kernel
theorem dX1_init_13 : decode cX1_init 13 = .ok (.iconst 0, 1) := by decide +kernel
theorem dX1_init_14 : decode cX1_init 14 = .ok (.istore_n 1, 1) := by decide +kernel
theorem dX1_init_15 : decode cX1_init 15 = .ok (.iload_n 1, 1) := by decide +kernel
theorem dX1_init_16 : decode cX1_init 16 = .ok (.aload_n 0, 1) := by decide +kernel
theorem dX1_init_17 : decode cX1_init 17 = .ok (.getfield 11, 3) := by decide +kernel
theorem dX1_init_20 : decode cX1_init 20 = .ok (.arraylength, 1) := by decide +kernel
theorem dX1_init_21 : decode cX1_init 21 = .ok (.if_icmp .ge 22, 3) := by decide +kernel
theorem dX1_init_24 : decode cX1_init 24 = .ok (.aload_n 0, 1) := by decide +kernel
theorem dX1_init_25 : decode cX1_init 25 = .ok (.getfield 11, 3) := by decide +kernel
theorem dX1_init_28 : decode cX1_init 28 = .ok (.iload_n 1, 1) := by decide +kernel
theorem dX1_init_29 : decode cX1_init 29 = .ok (.new 9, 3) := by decide +kernel
theorem dX1_init_32 : decode cX1_init 32 = .ok (.dup, 1) := by decide +kernel
theorem dX1_init_33 : decode cX1_init 33 = .ok (.invokespecial 17, 3) := by decide +kernel
theorem dX1_init_36 : decode cX1_init 36 = .ok (.aastore, 1) := by decide +kernel
theorem dX1_init_37 : decode cX1_init 37 = .ok (.iinc 1 1, 3) := by decide +kernel
theorem dX1_init_40 : decode cX1_init 40 = .ok (.goto (-25), 3) := by decide +kernel
theorem dX1_init_43 : decode cX1_init 43 = .ok (.aload_n 0, 1) := by decide +kernel
theorem dX1_init_44 : decode cX1_init 44 = .ok (.iconst 0, 1) := by decide +kernel
theorem dX1_init_45 : decode cX1_init 45 = .ok (.putfield 18, 3) := by decide +kernel
theorem dX1_init_48 : decode cX1_init 48 = .ok (.aload_n 0, 1) := by decide +kernel
theorem dX1_init_49 : decode cX1_init 49 = .ok (.iconst 0, 1) := by decide +kernel
theorem dX1_init_50 : decode cX1_init 50 = .ok (.putfield 22, 3) := by decide +kernel
theorem dX1_init_53 : decode cX1_init 53 = .ok (.return_, 1) := by decide +kernel
set_option maxRecDepth 20000 in
theorem ggX1_save_X1_slotAt : GoodIn wsX1_save wsX1_slotAt := goodIn_r _ [7, 2, 8, 23, 24, 25] (by decide +kernel) (by decide +kernel)
set_option maxRecDepth 20000 in
theorem gX1_save_X1_slotAt : GoodIn wsX1_save (wsV RX1 25 RX1 yX1_slotAt wsX1_slotAt) := goodIn_app (goodIn_of _ (by decide +kernel)) ggX1_save_X1_slotAt
set_option maxRecDepth 20000 in
theorem ggX1_save_X3_become : GoodIn wsX1_save wsX3_become := goodIn_r _ [13, 14, 15, 16, 17, 18, 19, 20, 21, 22, 26, 27, 28, 29] (by decide +kernel) (by decide +kernel)
set_option maxRecDepth 20000 in
theorem gX1_save_X3_become : GoodIn wsX1_save (wsV RX1 29 RX3 yX3_become wsX3_become) := goodIn_app (goodIn_of _ (by decide +kernel)) ggX1_save_X3_become
theorem dX1_save_0 : decode cX1_save 0 = .ok (.aload_n 0, 1) := by decide +kernel
theorem dX1_save_1 : decode cX1_save 1 = .ok (.getfield 22, 3) := by decide +kernel
theorem dX1_save_4 : decode cX1_save 4 = .ok (.bipush 6, 2) := by decide +kernel
theorem dX1_save_6 : decode cX1_save 6 = .ok (.if_icmp .ne 26, 3) := by decide +kernel
theorem dX1_save_9 : decode cX1_save 9 = .ok (.aload_n 0, 1) := by decide +kernel
theorem dX1_save_10 : decode cX1_save 10 = .ok (.aload_n 0, 1) := by decide +kernel
theorem dX1_save_11 : decode cX1_save 11 = .ok (.getfield 18, 3) := by decide +kernel
theorem dX1_save_14 : decode cX1_save 14 = .ok (.iconst 1, 1) := by decide +kernel
theorem dX1_save_15 : decode cX1_save 15 = .ok (.iadd, 1) := by decide +kernel
theorem dX1_save_16 : decode cX1_save 16 = .ok (.bipush 6, 2) := by decide +kernel
theorem dX1_save_18 : decode cX1_save 18 = .ok (.irem, 1) := by decide +kernel
theorem dX1_save_19 : decode cX1_save 19 = .ok (.putfield 18, 3) := by decide +kernel
theorem dX1_save_22 : decode cX1_save 22 = .ok (.aload_n 0, 1) := by decide +kernel
theorem dX1_save_23 : decode cX1_save 23 = .ok (.dup, 1) := by decide +kernel
theorem dX1_save_24 : decode cX1_save 24 = .ok (.getfield 22, 3) := by decide +kernel
theorem dX1_save_27 : decode cX1_save 27 = .ok (.iconst 1, 1) := by decide +kernel
theorem dX1_save_28 : decode cX1_save 28 = .ok (.isub, 1) := by decide +kernel
theorem dX1_save_29 : decode cX1_save 29 = .ok (.putfield 22, 3) := by decide +kernel
theorem dX1_save_32 : decode cX1_save 32 = .ok (.aload_n 0, 1) := by decide +kernel
theorem dX1_save_33 : decode cX1_save 33 = .ok (.aload_n 0, 1) := by decide +kernel
theorem dX1_save_34 : decode cX1_save 34 = .ok (.getfield 22, 3) := by decide +kernel
theorem dX1_save_37 : decode cX1_save 37 = .ok (.invokevirtual 25, 3) := by decide +kernel
theorem dX1_save_40 : decode cX1_save 40 = .ok (.astore_n 2, 1) := by decide +kernel
theorem dX1_save_41 : decode cX1_save 41 = .ok (.aload_n 2, 1) := by decide +kernel
theorem dX1_save_42 : decode cX1_save 42 = .ok (.ifnull 8, 3) := by decide +kernel
theorem dX1_save_45 : decode cX1_save 45 = .ok (.aload_n 2, 1) := by decide +kernel
theorem dX1_save_46 : decode cX1_save 46 = .ok (.aload_n 1, 1) := by decide +kernel
theorem dX1_save_47 : decode cX1_save 47 = .ok (.invokevirtual 29, 3) := by decide +kernel
theorem dX1_save_50 : decode cX1_save 50 = .ok (.aload_n 0, 1) := by decide +kernel
theorem dX1_save_51 : decode cX1_save 51 = .ok (.dup, 1) := by decide +kernel
theorem dX1_save_52 : decode cX1_save 52 = .ok (.getfield 22, 3) := by decide +kernel
theorem dX1_save_55 : decode cX1_save 55 = .ok (.iconst 1, 1) := by decide +kernel
theorem dX1_save_56 : decode cX1_save 56 = .ok (.iadd, 1) := by decide +kernel
theorem dX1_save_57 : decode cX1_save 57 = .ok (.putfield 22, 3) := by decide +kernel
theorem dX1_save_60 : decode cX1_save 60 = .ok (.return_, 1) := by decide +kernel
theorem dX1_slotAt_0 : decode cX1_slotAt 0 = .ok (.aload_n 0, 1) := by decide +kernel
theorem dX1_slotAt_1 : decode cX1_slotAt 1 = .ok (.getfield 18, 3) := by decide +kernel
theorem dX1_slotAt_4 : decode cX1_slotAt 4 = .ok (.iload_n 1, 1) := by decide +kernel
theorem dX1_slotAt_5 : decode cX1_slotAt 5 = .ok (.iadd, 1) := by decide +kernel
theorem dX1_slotAt_6 : decode cX1_slotAt 6 = .ok (.bipush 6, 2) := by decide +kernel
theorem dX1_slotAt_8 : decode cX1_slotAt 8 = .ok (.irem, 1) := by decide +kernel
theorem dX1_slotAt_9 : decode cX1_slotAt 9 = .ok (.istore_n 2, 1) := by decide +kernel
theorem dX1_slotAt_10 : decode cX1_slotAt 10 = .ok (.iload_n 2, 1) := by decide +kernel
theorem dX1_slotAt_11 : decode cX1_slotAt 11 = .ok (.ifCond .lt 21, 3) := by decide +kernel
theorem dX1_slotAt_14 : decode cX1_slotAt 14 = .ok (.iload_n 2, 1) := by decide +kernel
theorem dX1_slotAt_15 : decode cX1_slotAt 15 = .ok (.aload_n 0, 1) := by decide +kernel
theorem dX1_slotAt_16 : decode cX1_slotAt 16 = .ok (.getfield 11, 3) := by decide +kernel
theorem dX1_slotAt_19 : decode cX1_slotAt 19 = .ok (.arraylength, 1) := by decide +kernel
theorem dX1_slotAt_20 : decode cX1_slotAt 20 = .ok (.if_icmp .ge 12, 3) := by decide +kernel
theorem dX1_slotAt_23 : decode cX1_slotAt 23 = .ok (.aload_n 0, 1) := by decide +kernel
theorem dX1_slotAt_24 : decode cX1_slotAt 24 = .ok (.getfield 11, 3) := by decide +kernel
theorem dX1_slotAt_27 : decode cX1_slotAt 27 = .ok (.iload_n 2, 1) := by decide +kernel
theorem dX1_slotAt_28 : decode cX1_slotAt 28 = .ok (.aaload, 1) := by decide +kernel
theorem dX1_slotAt_29 : decode cX1_slotAt 29 = .ok (.goto 4, 3) := by decide +kernel
theorem dX1_slotAt_32 : decode cX1_slotAt 32 = .ok (.aconst_null, 1) := by decide +kernel
theorem dX1_slotAt_33 : decode cX1_slotAt 33 = .ok (.areturn, 1) := by decide +kernel
theorem dX2_init_0 : decode cX2_init 0 = .ok (.aload_n 0, 1) := by decide +kernel
theorem dX2_init_1 : decode cX2_init 1 = .ok (.invokespecial 3, 3) := by decide +kernel
theorem dX2_init_4 : decode cX2_init 4 = .ok (.aload_n 0, 1) := by decide +kernel
theorem dX2_init_5 : decode cX2_init 5 = .ok (.sipush 512, 3) := by decide +kernel
theorem dX2_init_8 : decode cX2_init 8 = .ok (.newarray .int, 2) := by decide +kernel
theorem dX2_init_10 : decode cX2_init 10 = .ok (.putfield 9, 3) := by decide +kernel
theorem dX2_init_13 : decode cX2_init 13 = .ok (.aload_n 0, 1) := by decide +kernel
theorem dX2_init_14 : decode cX2_init 14 = .ok (.sipush 512, 3) := by decide +kernel
theorem dX2_init_17 : decode cX2_init 17 = .ok (.newarray .int, 2) := by decide +kernel
theorem dX2_init_19 : decode cX2_init 19 = .ok (.putfield 15, 3) := by decide +kernel
theorem dX2_init_22 : decode cX2_init 22 = .ok (.aload_n 0, 1) := by decide +kernel
theorem dX2_init_23 : decode cX2_init 23 = .ok (.sipush 864, 3) := by decide +kernel
theorem dX2_init_26 : decode cX2_init 26 = .ok (.newarray .int, 2) := by decide +kernel
theorem dX2_init_28 : decode cX2_init 28 = .ok (.putfield 18, 3) := by decide +kernel
theorem dX2_init_31 : decode cX2_init 31 = .ok (.aload_n 0, 1) := by decide +kernel
theorem dX2_init_32 : decode cX2_init 32 = .ok (.iconst 0, 1) := by decide +kernel
theorem dX2_init_33 : decode cX2_init 33 = .ok (.putfield 21, 3) := by decide +kernel
theorem dX2_init_36 : decode cX2_init 36 = .ok (.aload_n 0, 1) := by decide +kernel
theorem dX2_init_37 : decode cX2_init 37 = .ok (.iconst 0, 1) := by decide +kernel
theorem dX2_init_38 : decode cX2_init 38 = .ok (.putfield 25, 3) := by decide +kernel
theorem dX2_init_41 : decode cX2_init 41 = .ok (.aload_n 0, 1) := by decide +kernel
theorem dX2_init_42 : decode cX2_init 42 = .ok (.iconst 0, 1) := by decide +kernel
theorem dX2_init_43 : decode cX2_init 43 = .ok (.putfield 28, 3) := by decide +kernel
theorem dX2_init_46 : decode cX2_init 46 = .ok (.return_, 1) := by decide +kernel
set_option maxRecDepth 20000 in
theorem ggX2_draw_J7_fill_53178 : GoodIn wsX2_draw wsJ7_fill_53178 := goodIn_r _ [6] (by decide +kernel) (by decide +kernel)
set_option maxRecDepth 20000 in
theorem gX2_draw_J7_fill_53178 : GoodIn wsX2_draw (va_wsS RX2 31 yJ7_fill_53178 wsJ7_fill_53178) := goodIn_app (goodIn_of _ (by decide +kernel)) ggX2_draw_J7_fill_53178
set_option maxRecDepth 20000 in
theorem ggX2_draw_X3_heightAt : GoodIn wsX2_draw wsX3_heightAt := goodIn_r _ [11, 12, 13, 14, 15, 10, 16, 17, 18, 19, 20, 74, 75, 76, 77] (by decide +kernel) (by decide +kernel)
set_option maxRecDepth 20000 in
theorem gX2_draw_X3_heightAt : GoodIn wsX2_draw (wsV RX2 42 RX3 yX3_heightAt wsX3_heightAt) := goodIn_app (goodIn_of _ (by decide +kernel)) ggX2_draw_X3_heightAt
set_option maxRecDepth 20000 in
theorem ggX2_draw_X2_drawBlock : GoodIn wsX2_draw wsX2_drawBlock := goodIn_r _ [25, 2, 1, 26, 19, 27, 28, 29, 30, 31, 18, 20, 32, 33, 34, 35, 36, 37, 24, 38, 39, 40, 41, 42, 43, 44, 68, 69, 70, 71, 72, 73] (by decide +kernel) (by decide +kernel)
set_option maxRecDepth 20000 in
theorem gX2_draw_X2_drawBlock : GoodIn wsX2_draw (wsV RX2 46 RX2 yX2_drawBlock wsX2_drawBlock) := goodIn_app (goodIn_of _ (by decide +kernel)) ggX2_draw_X2_drawBlock
set_option maxRecDepth 20000 in
theorem ggX2_draw_X2_countTriangles : GoodIn wsX2_draw wsX2_countTriangles := goodIn_r _ [48, 49, 50, 51, 52, 3, 4, 5, 6, 53, 54, 55, 24, 56, 1, 18, 19, 20, 57, 58, 59, 60, 43, 44, 61, 62, 63, 64, 65, 66, 67, 39, 40, 68, 69, 70, 71, 72, 73] (by decide +kernel) (by decide +kernel)
set_option maxRecDepth 20000 in
theorem gX2_draw_X2_countTriangles : GoodIn wsX2_draw (wsV RX2 50 RX2 yX2_countTriangles wsX2_countTriangles) := goodIn_app (goodIn_of _ (by decide +kernel)) ggX2_draw_X2_countTriangles
theorem dX2_draw_0 : decode cX2_draw 0 = .ok (.aload_n 0, 1) := by decide +kernel
theorem dX2_draw_1 : decode cX2_draw 1 = .ok (.getfield 9, 3) := by decide +kernel
theorem dX2_draw_4 : decode cX2_draw 4 = .ok (.iconst (-1), 1) := by decide +kernel
theorem dX2_draw_5 : decode cX2_draw 5 = .ok (.invokestatic 31, 3) := by decide +kernel
theorem dX2_draw_8 : decode cX2_draw 8 = .ok (.aload_n 0, 1) := by decide +kernel
theorem dX2_draw_9 : decode cX2_draw 9 = .ok (.getfield 15, 3) := by decide +kernel
theorem dX2_draw_12 : decode cX2_draw 12 = .ok (.iconst (-1), 1) := by decide +kernel
theorem dX2_draw_13 : decode cX2_draw 13 = .ok (.invokestatic 31, 3) := by decide +kernel
theorem dX2_draw_16 : decode cX2_draw 16 = .ok (.iconst 0, 1) := by decide +kernel
theorem dX2_draw_17 : decode cX2_draw 17 = .ok (.istore_n 2, 1) := by decide +kernel
theorem dX2_draw_18 : decode cX2_draw 18 = .ok (.iload_n 2, 1) := by decide +kernel
theorem dX2_draw_19 : decode cX2_draw 19 = .ok (.aload_n 1, 1) := by decide +kernel
theorem dX2_draw_20 : decode cX2_draw 20 = .ok (.getfield 37, 3) := by decide +kernel
theorem dX2_draw_23 : decode cX2_draw 23 = .ok (.if_icmp .ge 57, 3) := by decide +kernel
theorem dX2_draw_26 : decode cX2_draw 26 = .ok (.iconst 0, 1) := by decide +kernel
theorem dX2_draw_27 : decode cX2_draw 27 = .ok (.istore_n 3, 1) := by decide +kernel
theorem dX2_draw_28 : decode cX2_draw 28 = .ok (.iload_n 3, 1) := by decide +kernel
theorem dX2_draw_29 : decode cX2_draw 29 = .ok (.aload_n 1, 1) := by decide +kernel
theorem dX2_draw_30 : decode cX2_draw 30 = .ok (.getfield 37, 3) := by decide +kernel
theorem dX2_draw_33 : decode cX2_draw 33 = .ok (.if_icmp .ge 41, 3) := by decide +kernel
theorem dX2_draw_36 : decode cX2_draw 36 = .ok (.aload_n 1, 1) := by decide +kernel
theorem dX2_draw_37 : decode cX2_draw 37 = .ok (.iload_n 3, 1) := by decide +kernel
theorem dX2_draw_38 : decode cX2_draw 38 = .ok (.iload_n 2, 1) := by decide +kernel
theorem dX2_draw_39 : decode cX2_draw 39 = .ok (.invokevirtual 42, 3) := by decide +kernel
theorem dX2_draw_42 : decode cX2_draw 42 = .ok (.istore 4, 2) := by decide +kernel
theorem dX2_draw_44 : decode cX2_draw 44 = .ok (.iconst 0, 1) := by decide +kernel
theorem dX2_draw_45 : decode cX2_draw 45 = .ok (.istore 5, 2) := by decide +kernel
theorem dX2_draw_47 : decode cX2_draw 47 = .ok (.iload 5, 2) := by decide +kernel
theorem dX2_draw_49 : decode cX2_draw 49 = .ok (.iload 4, 2) := by decide +kernel
theorem dX2_draw_51 : decode cX2_draw 51 = .ok (.if_icmp .ge 17, 3) := by decide +kernel
theorem dX2_draw_54 : decode cX2_draw 54 = .ok (.aload_n 0, 1) := by decide +kernel
theorem dX2_draw_55 : decode cX2_draw 55 = .ok (.iload_n 3, 1) := by decide +kernel
theorem dX2_draw_56 : decode cX2_draw 56 = .ok (.iload_n 2, 1) := by decide +kernel
theorem dX2_draw_57 : decode cX2_draw 57 = .ok (.iload 5, 2) := by decide +kernel
theorem dX2_draw_59 : decode cX2_draw 59 = .ok (.invokevirtual 46, 3) := by decide +kernel
theorem dX2_draw_62 : decode cX2_draw 62 = .ok (.iinc 5 1, 3) := by decide +kernel
theorem dX2_draw_65 : decode cX2_draw 65 = .ok (.goto (-18), 3) := by decide +kernel
theorem dX2_draw_68 : decode cX2_draw 68 = .ok (.iinc 3 1, 3) := by decide +kernel
theorem dX2_draw_71 : decode cX2_draw 71 = .ok (.goto (-43), 3) := by decide +kernel
theorem dX2_draw_74 : decode cX2_draw 74 = .ok (.iinc 2 1, 3) := by decide +kernel
theorem dX2_draw_77 : decode cX2_draw 77 = .ok (.goto (-59), 3) := by decide +kernel
theorem dX2_draw_80 : decode cX2_draw 80 = .ok (.aload_n 0, 1) := by decide +kernel
theorem dX2_draw_81 : decode cX2_draw 81 = .ok (.invokevirtual 50, 3) := by decide +kernel
theorem dX2_draw_84 : decode cX2_draw 84 = .ok (.return_, 1) := by decide +kernel
set_option maxRecDepth 20000 in
theorem ggX2_drawBlock_X4_triangleOfBlock : GoodIn wsX2_drawBlock wsX4_triangleOfBlock := goodIn_r _ [5, 6, 7, 8, 9, 10, 4, 11, 12, 13, 14] (by decide +kernel) (by decide +kernel)
set_option maxRecDepth 20000 in
theorem gX2_drawBlock_X4_triangleOfBlock_n53 : GoodIn wsX2_drawBlock (wsX4_triangleOfBlock) := ggX2_drawBlock_X4_triangleOfBlock
set_option maxRecDepth 20000 in
theorem ggX2_drawBlock_X2_takes : GoodIn wsX2_drawBlock wsX2_takes := goodIn_r _ [19, 1, 10, 4, 11, 26, 27, 28, 29, 30, 31] (by decide +kernel) (by decide +kernel)
set_option maxRecDepth 20000 in
theorem gX2_drawBlock_X2_takes : GoodIn wsX2_drawBlock (wsV RX2 57 RX2 yX2_takes wsX2_takes) := goodIn_app (goodIn_of _ (by decide +kernel)) ggX2_drawBlock_X2_takes
set_option maxRecDepth 20000 in
theorem ggX2_drawBlock_X4_setAt : GoodIn wsX2_drawBlock wsX4_setAt := goodIn_r _ [21] (by decide +kernel) (by decide +kernel)
set_option maxRecDepth 20000 in
theorem gX2_drawBlock_X4_setAt_n61 : GoodIn wsX2_drawBlock (wsX4_setAt) := ggX2_drawBlock_X4_setAt
set_option maxRecDepth 20000 in
theorem ggX2_drawBlock_X4_blockNumber : GoodIn wsX2_drawBlock wsX4_blockNumber := goodIn_r _ [23] (by decide +kernel) (by decide +kernel)
set_option maxRecDepth 20000 in
theorem gX2_drawBlock_X4_blockNumber_n65 : GoodIn wsX2_drawBlock (wsX4_blockNumber) := ggX2_drawBlock_X4_blockNumber
set_option maxRecDepth 20000 in
theorem ggX2_drawBlock_X4_faceNumber : GoodIn wsX2_drawBlock wsX4_faceNumber := goodIn_r _ [25] (by decide +kernel) (by decide +kernel)
set_option maxRecDepth 20000 in
theorem gX2_drawBlock_X4_faceNumber_n69 : GoodIn wsX2_drawBlock (wsX4_faceNumber) := ggX2_drawBlock_X4_faceNumber
theorem dX2_drawBlock_0 : decode cX2_drawBlock 0 = .ok (.iconst 0, 1) := by decide +kernel
theorem dX2_drawBlock_1 : decode cX2_drawBlock 1 = .ok (.istore 4, 2) := by decide +kernel
theorem dX2_drawBlock_3 : decode cX2_drawBlock 3 = .ok (.iload 4, 2) := by decide +kernel
theorem dX2_drawBlock_5 : decode cX2_drawBlock 5 = .ok (.bipush 6, 2) := by decide +kernel
theorem dX2_drawBlock_7 : decode cX2_drawBlock 7 = .ok (.if_icmp .ge 67, 3) := by decide +kernel
theorem dX2_drawBlock_10 : decode cX2_drawBlock 10 = .ok (.iload_n 1, 1) := by decide +kernel
theorem dX2_drawBlock_11 : decode cX2_drawBlock 11 = .ok (.iload_n 2, 1) := by decide +kernel
theorem dX2_drawBlock_12 : decode cX2_drawBlock 12 = .ok (.iload_n 3, 1) := by decide +kernel
theorem dX2_drawBlock_13 : decode cX2_drawBlock 13 = .ok (.iload 4, 2) := by decide +kernel
theorem dX2_drawBlock_15 : decode cX2_drawBlock 15 = .ok (.invokestatic 53, 3) := by decide +kernel
theorem dX2_drawBlock_18 : decode cX2_drawBlock 18 = .ok (.istore 5, 2) := by decide +kernel
theorem dX2_drawBlock_20 : decode cX2_drawBlock 20 = .ok (.aload_n 0, 1) := by decide +kernel
theorem dX2_drawBlock_21 : decode cX2_drawBlock 21 = .ok (.iload_n 1, 1) := by decide +kernel
theorem dX2_drawBlock_22 : decode cX2_drawBlock 22 = .ok (.iload_n 2, 1) := by decide +kernel
theorem dX2_drawBlock_23 : decode cX2_drawBlock 23 = .ok (.iload_n 3, 1) := by decide +kernel
theorem dX2_drawBlock_24 : decode cX2_drawBlock 24 = .ok (.iload 5, 2) := by decide +kernel
theorem dX2_drawBlock_26 : decode cX2_drawBlock 26 = .ok (.invokevirtual 57, 3) := by decide +kernel
theorem dX2_drawBlock_29 : decode cX2_drawBlock 29 = .ok (.ifCond .eq 39, 3) := by decide +kernel
theorem dX2_drawBlock_32 : decode cX2_drawBlock 32 = .ok (.aload_n 0, 1) := by decide +kernel
theorem dX2_drawBlock_33 : decode cX2_drawBlock 33 = .ok (.getfield 15, 3) := by decide +kernel
theorem dX2_drawBlock_36 : decode cX2_drawBlock 36 = .ok (.iload 5, 2) := by decide +kernel
theorem dX2_drawBlock_38 : decode cX2_drawBlock 38 = .ok (.iload_n 1, 1) := by decide +kernel
theorem dX2_drawBlock_39 : decode cX2_drawBlock 39 = .ok (.iload_n 2, 1) := by decide +kernel
theorem dX2_drawBlock_40 : decode cX2_drawBlock 40 = .ok (.iadd, 1) := by decide +kernel
theorem dX2_drawBlock_41 : decode cX2_drawBlock 41 = .ok (.iload_n 3, 1) := by decide +kernel
theorem dX2_drawBlock_42 : decode cX2_drawBlock 42 = .ok (.iadd, 1) := by decide +kernel
theorem dX2_drawBlock_43 : decode cX2_drawBlock 43 = .ok (.invokestatic 61, 3) := by decide +kernel
theorem dX2_drawBlock_46 : decode cX2_drawBlock 46 = .ok (.aload_n 0, 1) := by decide +kernel
theorem dX2_drawBlock_47 : decode cX2_drawBlock 47 = .ok (.getfield 9, 3) := by decide +kernel
theorem dX2_drawBlock_50 : decode cX2_drawBlock 50 = .ok (.iload 5, 2) := by decide +kernel
theorem dX2_drawBlock_52 : decode cX2_drawBlock 52 = .ok (.iload_n 1, 1) := by decide +kernel
theorem dX2_drawBlock_53 : decode cX2_drawBlock 53 = .ok (.iload_n 2, 1) := by decide +kernel
theorem dX2_drawBlock_54 : decode cX2_drawBlock 54 = .ok (.iload_n 3, 1) := by decide +kernel
theorem dX2_drawBlock_55 : decode cX2_drawBlock 55 = .ok (.invokestatic 65, 3) := by decide +kernel
theorem dX2_drawBlock_58 : decode cX2_drawBlock 58 = .ok (.iload 4, 2) := by decide +kernel
theorem dX2_drawBlock_60 : decode cX2_drawBlock 60 = .ok (.iconst 2, 1) := by decide +kernel
theorem dX2_drawBlock_61 : decode cX2_drawBlock 61 = .ok (.idiv, 1) := by decide +kernel
theorem dX2_drawBlock_62 : decode cX2_drawBlock 62 = .ok (.invokestatic 69, 3) := by decide +kernel
theorem dX2_drawBlock_65 : decode cX2_drawBlock 65 = .ok (.invokestatic 61, 3) := by decide +kernel
theorem dX2_drawBlock_68 : decode cX2_drawBlock 68 = .ok (.iinc 4 1, 3) := by decide +kernel
theorem dX2_drawBlock_71 : decode cX2_drawBlock 71 = .ok (.goto (-68), 3) := by decide +kernel
theorem dX2_drawBlock_74 : decode cX2_drawBlock 74 = .ok (.return_, 1) := by decide +kernel
set_option maxRecDepth 20000 in
theorem ggX2_takes_X4_valueAt : GoodIn wsX2_takes wsX4_valueAt := goodIn_r _ [4] (by decide +kernel) (by decide +kernel)
set_option maxRecDepth 20000 in
theorem gX2_takes_X4_valueAt_n72 : GoodIn wsX2_takes (wsX4_valueAt) := ggX2_takes_X4_valueAt
theorem dX2_takes_0 : decode cX2_takes 0 = .ok (.iload_n 1, 1) := by decide +kernel
theorem dX2_takes_1 : decode cX2_takes 1 = .ok (.iload_n 2, 1) := by decide +kernel
theorem dX2_takes_2 : decode cX2_takes 2 = .ok (.iadd, 1) := by decide +kernel
theorem dX2_takes_3 : decode cX2_takes 3 = .ok (.iload_n 3, 1) := by decide +kernel
theorem dX2_takes_4 : decode cX2_takes 4 = .ok (.iadd, 1) := by decide +kernel
theorem dX2_takes_5 : decode cX2_takes 5 = .ok (.aload_n 0, 1) := by decide +kernel
theorem dX2_takes_6 : decode cX2_takes 6 = .ok (.getfield 15, 3) := by decide +kernel
theorem dX2_takes_9 : decode cX2_takes 9 = .ok (.iload 4, 2) := by decide +kernel
theorem dX2_takes_11 : decode cX2_takes 11 = .ok (.invokestatic 72, 3) := by decide +kernel
theorem dX2_takes_14 : decode cX2_takes 14 = .ok (.if_icmp .le 7, 3) := by decide +kernel
theorem dX2_takes_17 : decode cX2_takes 17 = .ok (.iconst 1, 1) := by decide +kernel
theorem dX2_takes_18 : decode cX2_takes 18 = .ok (.goto 4, 3) := by decide +kernel
theorem dX2_takes_21 : decode cX2_takes 21 = .ok (.iconst 0, 1) := by decide +kernel
theorem dX2_takes_22 : decode cX2_takes 22 = .ok (.ireturn, 1) := by decide +kernel
set_option maxRecDepth 20000 in
theorem ggX2_countTriangles_J7_fill_53178 : GoodIn wsX2_countTriangles wsJ7_fill_53178 := goodIn_r _ [8] (by decide +kernel) (by decide +kernel)
set_option maxRecDepth 20000 in
theorem gX2_countTriangles_J7_fill_53178 : GoodIn wsX2_countTriangles (va_wsS RX2 31 yJ7_fill_53178 wsJ7_fill_53178) := goodIn_app (goodIn_of _ (by decide +kernel)) ggX2_countTriangles_J7_fill_53178
set_option maxRecDepth 20000 in
theorem ggX2_countTriangles_X2_faceIn : GoodIn wsX2_countTriangles wsX2_faceIn := goodIn_r _ [13, 14, 15, 16, 17, 33, 34, 35, 36, 37, 38] (by decide +kernel) (by decide +kernel)
set_option maxRecDepth 20000 in
theorem gX2_countTriangles_X2_faceIn : GoodIn wsX2_countTriangles (wsV RX2 76 RX2 yX2_faceIn wsX2_faceIn) := goodIn_app (goodIn_of _ (by decide +kernel)) ggX2_countTriangles_X2_faceIn
set_option maxRecDepth 20000 in
theorem ggX2_countTriangles_X2_trianglesOfBlock : GoodIn wsX2_countTriangles wsX2_trianglesOfBlock := goodIn_r _ [21, 1, 22, 16, 23, 15, 17, 33, 34, 35, 36, 37, 38] (by decide +kernel) (by decide +kernel)
set_option maxRecDepth 20000 in
theorem gX2_countTriangles_X2_trianglesOfBlock : GoodIn wsX2_countTriangles (wsV RX2 80 RX2 yX2_trianglesOfBlock wsX2_trianglesOfBlock) := goodIn_app (goodIn_of _ (by decide +kernel)) ggX2_countTriangles_X2_trianglesOfBlock
set_option maxRecDepth 20000 in
theorem ggX2_countTriangles_X2_trianglesOfFace : GoodIn wsX2_countTriangles wsX2_trianglesOfFace := goodIn_r _ [27, 1, 15, 16, 17, 33, 34, 35, 36, 37, 38] (by decide +kernel) (by decide +kernel)
set_option maxRecDepth 20000 in
theorem gX2_countTriangles_X2_trianglesOfFace : GoodIn wsX2_countTriangles (wsV RX2 83 RX2 yX2_trianglesOfFace wsX2_trianglesOfFace) := goodIn_app (goodIn_of _ (by decide +kernel)) ggX2_countTriangles_X2_trianglesOfFace
set_option maxRecDepth 20000 in
theorem ggX2_countTriangles_X2_changeBy : GoodIn wsX2_countTriangles wsX2_changeBy := goodIn_r _ [30, 15, 16, 17, 31, 32] (by decide +kernel) (by decide +kernel)
set_option maxRecDepth 20000 in
theorem gX2_countTriangles_X2_changeBy : GoodIn wsX2_countTriangles (va_wsS RX2 86 yX2_changeBy wsX2_changeBy) := goodIn_app (goodIn_of _ (by decide +kernel)) ggX2_countTriangles_X2_changeBy
theorem dX2_countTriangles_0 : decode cX2_countTriangles 0 = .ok (.aload_n 0, 1) := by decide +kernel
theorem dX2_countTriangles_1 : decode cX2_countTriangles 1 = .ok (.getfield 18, 3) := by decide +kernel
theorem dX2_countTriangles_4 : decode cX2_countTriangles 4 = .ok (.iconst 0, 1) := by decide +kernel
theorem dX2_countTriangles_5 : decode cX2_countTriangles 5 = .ok (.invokestatic 31, 3) := by decide +kernel
theorem dX2_countTriangles_8 : decode cX2_countTriangles 8 = .ok (.aload_n 0, 1) := by decide +kernel
theorem dX2_countTriangles_9 : decode cX2_countTriangles 9 = .ok (.iconst 0, 1) := by decide +kernel
theorem dX2_countTriangles_10 : decode cX2_countTriangles 10 = .ok (.putfield 21, 3) := by decide +kernel
theorem dX2_countTriangles_13 : decode cX2_countTriangles 13 = .ok (.aload_n 0, 1) := by decide +kernel
theorem dX2_countTriangles_14 : decode cX2_countTriangles 14 = .ok (.iconst 0, 1) := by decide +kernel
theorem dX2_countTriangles_15 : decode cX2_countTriangles 15 = .ok (.putfield 25, 3) := by decide +kernel
theorem dX2_countTriangles_18 : decode cX2_countTriangles 18 = .ok (.aload_n 0, 1) := by decide +kernel
theorem dX2_countTriangles_19 : decode cX2_countTriangles 19 = .ok (.iconst 0, 1) := by decide +kernel
theorem dX2_countTriangles_20 : decode cX2_countTriangles 20 = .ok (.putfield 28, 3) := by decide +kernel
theorem dX2_countTriangles_23 : decode cX2_countTriangles 23 = .ok (.iconst 0, 1) := by decide +kernel
theorem dX2_countTriangles_24 : decode cX2_countTriangles 24 = .ok (.istore_n 1, 1) := by decide +kernel
theorem dX2_countTriangles_25 : decode cX2_countTriangles 25 = .ok (.iload_n 1, 1) := by decide +kernel
theorem dX2_countTriangles_26 : decode cX2_countTriangles 26 = .ok (.sipush 512, 3) := by decide +kernel
theorem dX2_countTriangles_29 : decode cX2_countTriangles 29 = .ok (.if_icmp .ge 85, 3) := by decide +kernel
theorem dX2_countTriangles_32 : decode cX2_countTriangles 32 = .ok (.aload_n 0, 1) := by decide +kernel
theorem dX2_countTriangles_33 : decode cX2_countTriangles 33 = .ok (.iload_n 1, 1) := by decide +kernel
theorem dX2_countTriangles_34 : decode cX2_countTriangles 34 = .ok (.invokevirtual 76, 3) := by decide +kernel
theorem dX2_countTriangles_37 : decode cX2_countTriangles 37 = .ok (.istore_n 2, 1) := by decide +kernel
theorem dX2_countTriangles_38 : decode cX2_countTriangles 38 = .ok (.iload_n 2, 1) := by decide +kernel
theorem dX2_countTriangles_39 : decode cX2_countTriangles 39 = .ok (.iconst (-1), 1) := by decide +kernel
theorem dX2_countTriangles_40 : decode cX2_countTriangles 40 = .ok (.if_icmp .eq 68, 3) := by decide +kernel
theorem dX2_countTriangles_43 : decode cX2_countTriangles 43 = .ok (.aload_n 0, 1) := by decide +kernel
theorem dX2_countTriangles_44 : decode cX2_countTriangles 44 = .ok (.dup, 1) := by decide +kernel
theorem dX2_countTriangles_45 : decode cX2_countTriangles 45 = .ok (.getfield 21, 3) := by decide +kernel
theorem dX2_countTriangles_48 : decode cX2_countTriangles 48 = .ok (.aload_n 0, 1) := by decide +kernel
theorem dX2_countTriangles_49 : decode cX2_countTriangles 49 = .ok (.iload_n 2, 1) := by decide +kernel
theorem dX2_countTriangles_50 : decode cX2_countTriangles 50 = .ok (.iconst 3, 1) := by decide +kernel
theorem dX2_countTriangles_51 : decode cX2_countTriangles 51 = .ok (.idiv, 1) := by decide +kernel
theorem dX2_countTriangles_52 : decode cX2_countTriangles 52 = .ok (.invokevirtual 80, 3) := by decide +kernel
theorem dX2_countTriangles_55 : decode cX2_countTriangles 55 = .ok (.ifCond .ne 7, 3) := by decide +kernel
theorem dX2_countTriangles_58 : decode cX2_countTriangles 58 = .ok (.iconst 1, 1) := by decide +kernel
theorem dX2_countTriangles_59 : decode cX2_countTriangles 59 = .ok (.goto 4, 3) := by decide +kernel
theorem dX2_countTriangles_62 : decode cX2_countTriangles 62 = .ok (.iconst 0, 1) := by decide +kernel
theorem dX2_countTriangles_63 : decode cX2_countTriangles 63 = .ok (.iadd, 1) := by decide +kernel
theorem dX2_countTriangles_64 : decode cX2_countTriangles 64 = .ok (.putfield 21, 3) := by decide +kernel
theorem dX2_countTriangles_67 : decode cX2_countTriangles 67 = .ok (.aload_n 0, 1) := by decide +kernel
theorem dX2_countTriangles_68 : decode cX2_countTriangles 68 = .ok (.dup, 1) := by decide +kernel
theorem dX2_countTriangles_69 : decode cX2_countTriangles 69 = .ok (.getfield 25, 3) := by decide +kernel
theorem dX2_countTriangles_72 : decode cX2_countTriangles 72 = .ok (.aload_n 0, 1) := by decide +kernel
theorem dX2_countTriangles_73 : decode cX2_countTriangles 73 = .ok (.iload_n 2, 1) := by decide +kernel
theorem dX2_countTriangles_74 : decode cX2_countTriangles 74 = .ok (.invokevirtual 83, 3) := by decide +kernel
theorem dX2_countTriangles_77 : decode cX2_countTriangles 77 = .ok (.ifCond .ne 7, 3) := by decide +kernel
theorem dX2_countTriangles_80 : decode cX2_countTriangles 80 = .ok (.iconst 1, 1) := by decide +kernel
theorem dX2_countTriangles_81 : decode cX2_countTriangles 81 = .ok (.goto 4, 3) := by decide +kernel
theorem dX2_countTriangles_84 : decode cX2_countTriangles 84 = .ok (.iconst 0, 1) := by decide +kernel
theorem dX2_countTriangles_85 : decode cX2_countTriangles 85 = .ok (.iadd, 1) := by decide +kernel
theorem dX2_countTriangles_86 : decode cX2_countTriangles 86 = .ok (.putfield 25, 3) := by decide +kernel
theorem dX2_countTriangles_89 : decode cX2_countTriangles 89 = .ok (.aload_n 0, 1) := by decide +kernel
theorem dX2_countTriangles_90 : decode cX2_countTriangles 90 = .ok (.dup, 1) := by decide +kernel
theorem dX2_countTriangles_91 : decode cX2_countTriangles 91 = .ok (.getfield 28, 3) := by decide +kernel
theorem dX2_countTriangles_94 : decode cX2_countTriangles 94 = .ok (.iconst 1, 1) := by decide +kernel
theorem dX2_countTriangles_95 : decode cX2_countTriangles 95 = .ok (.iadd, 1) := by decide +kernel
theorem dX2_countTriangles_96 : decode cX2_countTriangles 96 = .ok (.putfield 28, 3) := by decide +kernel
theorem dX2_countTriangles_99 : decode cX2_countTriangles 99 = .ok (.aload_n 0, 1) := by decide +kernel
theorem dX2_countTriangles_100 : decode cX2_countTriangles 100 = .ok (.getfield 18, 3) := by decide +kernel
theorem dX2_countTriangles_103 : decode cX2_countTriangles 103 = .ok (.iload_n 2, 1) := by decide +kernel
theorem dX2_countTriangles_104 : decode cX2_countTriangles 104 = .ok (.iconst 1, 1) := by decide +kernel
theorem dX2_countTriangles_105 : decode cX2_countTriangles 105 = .ok (.invokestatic 86, 3) := by decide +kernel
theorem dX2_countTriangles_108 : decode cX2_countTriangles 108 = .ok (.iinc 1 1, 3) := by decide +kernel
theorem dX2_countTriangles_111 : decode cX2_countTriangles 111 = .ok (.goto (-86), 3) := by decide +kernel
theorem dX2_countTriangles_114 : decode cX2_countTriangles 114 = .ok (.return_, 1) := by decide +kernel
set_option maxRecDepth 20000 in
theorem ggX2_faceIn_X4_valueAt : GoodIn wsX2_faceIn wsX4_valueAt := goodIn_r _ [4] (by decide +kernel) (by decide +kernel)
set_option maxRecDepth 20000 in
theorem gX2_faceIn_X4_valueAt_n72 : GoodIn wsX2_faceIn (wsX4_valueAt) := ggX2_faceIn_X4_valueAt
theorem dX2_faceIn_0 : decode cX2_faceIn 0 = .ok (.aload_n 0, 1) := by decide +kernel
theorem dX2_faceIn_1 : decode cX2_faceIn 1 = .ok (.getfield 9, 3) := by decide +kernel
theorem dX2_faceIn_4 : decode cX2_faceIn 4 = .ok (.iload_n 1, 1) := by decide +kernel
theorem dX2_faceIn_5 : decode cX2_faceIn 5 = .ok (.invokestatic 72, 3) := by decide +kernel
theorem dX2_faceIn_8 : decode cX2_faceIn 8 = .ok (.ireturn, 1) := by decide +kernel
set_option maxRecDepth 20000 in
theorem ggX2_trianglesOfFace_X4_valueAt : GoodIn wsX2_trianglesOfFace wsX4_valueAt := goodIn_r _ [4] (by decide +kernel) (by decide +kernel)
set_option maxRecDepth 20000 in
theorem gX2_trianglesOfFace_X4_valueAt_n72 : GoodIn wsX2_trianglesOfFace (wsX4_valueAt) := ggX2_trianglesOfFace_X4_valueAt
theorem dX2_trianglesOfFace_0 : decode cX2_trianglesOfFace 0 = .ok (.aload_n 0, 1) := by decide +kernel
theorem dX2_trianglesOfFace_1 : decode cX2_trianglesOfFace 1 = .ok (.getfield 18, 3) := by decide +kernel
theorem dX2_trianglesOfFace_4 : decode cX2_trianglesOfFace 4 = .ok (.iload_n 1, 1) := by decide +kernel
theorem dX2_trianglesOfFace_5 : decode cX2_trianglesOfFace 5 = .ok (.invokestatic 72, 3) := by decide +kernel
theorem dX2_trianglesOfFace_8 : decode cX2_trianglesOfFace 8 = .ok (.ireturn, 1) := by decide +kernel
set_option maxRecDepth 20000 in
theorem ggX2_trianglesOfBlock_X4_faceNumber : GoodIn wsX2_trianglesOfBlock wsX4_faceNumber := goodIn_r _ [4] (by decide +kernel) (by decide +kernel)
set_option maxRecDepth 20000 in
theorem gX2_trianglesOfBlock_X4_faceNumber_n69 : GoodIn wsX2_trianglesOfBlock (wsX4_faceNumber) := ggX2_trianglesOfBlock_X4_faceNumber
set_option maxRecDepth 20000 in
theorem ggX2_trianglesOfBlock_X4_valueAt : GoodIn wsX2_trianglesOfBlock wsX4_valueAt := goodIn_r _ [6] (by decide +kernel) (by decide +kernel)
set_option maxRecDepth 20000 in
theorem gX2_trianglesOfBlock_X4_valueAt_n72 : GoodIn wsX2_trianglesOfBlock (wsX4_valueAt) := ggX2_trianglesOfBlock_X4_valueAt
theorem dX2_trianglesOfBlock_0 : decode cX2_trianglesOfBlock 0 = .ok (.iconst 0, 1) := by decide +kernel
theorem dX2_trianglesOfBlock_1 : decode cX2_trianglesOfBlock 1 = .ok (.istore_n 2, 1) := by decide +kernel
theorem dX2_trianglesOfBlock_2 : decode cX2_trianglesOfBlock 2 = .ok (.iconst 0, 1) := by decide +kernel
theorem dX2_trianglesOfBlock_3 : decode cX2_trianglesOfBlock 3 = .ok (.istore_n 3, 1) := by decide +kernel
theorem dX2_trianglesOfBlock_4 : decode cX2_trianglesOfBlock 4 = .ok (.iload_n 3, 1) := by decide +kernel
theorem dX2_trianglesOfBlock_5 : decode cX2_trianglesOfBlock 5 = .ok (.iconst 3, 1) := by decide +kernel
theorem dX2_trianglesOfBlock_6 : decode cX2_trianglesOfBlock 6 = .ok (.if_icmp .ge 24, 3) := by decide +kernel
theorem dX2_trianglesOfBlock_9 : decode cX2_trianglesOfBlock 9 = .ok (.iload_n 2, 1) := by decide +kernel
theorem dX2_trianglesOfBlock_10 : decode cX2_trianglesOfBlock 10 = .ok (.aload_n 0, 1) := by decide +kernel
theorem dX2_trianglesOfBlock_11 : decode cX2_trianglesOfBlock 11 = .ok (.getfield 18, 3) := by decide +kernel
theorem dX2_trianglesOfBlock_14 : decode cX2_trianglesOfBlock 14 = .ok (.iload_n 1, 1) := by decide +kernel
theorem dX2_trianglesOfBlock_15 : decode cX2_trianglesOfBlock 15 = .ok (.iload_n 3, 1) := by decide +kernel
theorem dX2_trianglesOfBlock_16 : decode cX2_trianglesOfBlock 16 = .ok (.invokestatic 69, 3) := by decide +kernel
theorem dX2_trianglesOfBlock_19 : decode cX2_trianglesOfBlock 19 = .ok (.invokestatic 72, 3) := by decide +kernel
theorem dX2_trianglesOfBlock_22 : decode cX2_trianglesOfBlock 22 = .ok (.iadd, 1) := by decide +kernel
theorem dX2_trianglesOfBlock_23 : decode cX2_trianglesOfBlock 23 = .ok (.istore_n 2, 1) := by decide +kernel
theorem dX2_trianglesOfBlock_24 : decode cX2_trianglesOfBlock 24 = .ok (.iinc 3 1, 3) := by decide +kernel
theorem dX2_trianglesOfBlock_27 : decode cX2_trianglesOfBlock 27 = .ok (.goto (-23), 3) := by decide +kernel
theorem dX2_trianglesOfBlock_30 : decode cX2_trianglesOfBlock 30 = .ok (.iload_n 2, 1) := by decide +kernel
theorem dX2_trianglesOfBlock_31 : decode cX2_trianglesOfBlock 31 = .ok (.ireturn, 1) := by decide +kernel
set_option maxRecDepth 20000 in
theorem ggX2_blocksSeenIn_X4_blockNumber : GoodIn wsX2_blocksSeenIn wsX4_blockNumber := goodIn_r _ [3] (by decide +kernel) (by decide +kernel)
set_option maxRecDepth 20000 in
theorem gX2_blocksSeenIn_X4_blockNumber_n65 : GoodIn wsX2_blocksSeenIn (wsX4_blockNumber) := ggX2_blocksSeenIn_X4_blockNumber
set_option maxRecDepth 20000 in
theorem ggX2_blocksSeenIn_X2_trianglesOfBlock : GoodIn wsX2_blocksSeenIn wsX2_trianglesOfBlock := goodIn_r _ [8, 9, 10, 2, 11, 12, 13, 14, 15, 16, 17, 18, 19] (by decide +kernel) (by decide +kernel)
set_option maxRecDepth 20000 in
theorem gX2_blocksSeenIn_X2_trianglesOfBlock : GoodIn wsX2_blocksSeenIn (wsV RX2 80 RX2 yX2_trianglesOfBlock wsX2_trianglesOfBlock) := goodIn_app (goodIn_of _ (by decide +kernel)) ggX2_blocksSeenIn_X2_trianglesOfBlock
theorem dX2_blocksSeenIn_0 : decode cX2_blocksSeenIn 0 = .ok (.iconst 0, 1) := by decide +kernel
theorem dX2_blocksSeenIn_1 : decode cX2_blocksSeenIn 1 = .ok (.istore 4, 2) := by decide +kernel
theorem dX2_blocksSeenIn_3 : decode cX2_blocksSeenIn 3 = .ok (.iconst 0, 1) := by decide +kernel
theorem dX2_blocksSeenIn_4 : decode cX2_blocksSeenIn 4 = .ok (.istore 5, 2) := by decide +kernel
theorem dX2_blocksSeenIn_6 : decode cX2_blocksSeenIn 6 = .ok (.iload 5, 2) := by decide +kernel
theorem dX2_blocksSeenIn_8 : decode cX2_blocksSeenIn 8 = .ok (.iload_n 3, 1) := by decide +kernel
theorem dX2_blocksSeenIn_9 : decode cX2_blocksSeenIn 9 = .ok (.if_icmp .ge 26, 3) := by decide +kernel
theorem dX2_blocksSeenIn_12 : decode cX2_blocksSeenIn 12 = .ok (.aload_n 0, 1) := by decide +kernel
theorem dX2_blocksSeenIn_13 : decode cX2_blocksSeenIn 13 = .ok (.iload_n 1, 1) := by decide +kernel
theorem dX2_blocksSeenIn_14 : decode cX2_blocksSeenIn 14 = .ok (.iload_n 2, 1) := by decide +kernel
theorem dX2_blocksSeenIn_15 : decode cX2_blocksSeenIn 15 = .ok (.iload 5, 2) := by decide +kernel
theorem dX2_blocksSeenIn_17 : decode cX2_blocksSeenIn 17 = .ok (.invokestatic 65, 3) := by decide +kernel
theorem dX2_blocksSeenIn_20 : decode cX2_blocksSeenIn 20 = .ok (.invokevirtual 80, 3) := by decide +kernel
theorem dX2_blocksSeenIn_23 : decode cX2_blocksSeenIn 23 = .ok (.ifCond .le 6, 3) := by decide +kernel
theorem dX2_blocksSeenIn_26 : decode cX2_blocksSeenIn 26 = .ok (.iinc 4 1, 3) := by decide +kernel
theorem dX2_blocksSeenIn_29 : decode cX2_blocksSeenIn 29 = .ok (.iinc 5 1, 3) := by decide +kernel
theorem dX2_blocksSeenIn_32 : decode cX2_blocksSeenIn 32 = .ok (.goto (-26), 3) := by decide +kernel
theorem dX2_blocksSeenIn_35 : decode cX2_blocksSeenIn 35 = .ok (.iload 4, 2) := by decide +kernel
theorem dX2_blocksSeenIn_37 : decode cX2_blocksSeenIn 37 = .ok (.ireturn, 1) := by decide +kernel
set_option maxRecDepth 20000 in
theorem ggX2_trianglesOfColour_X2_faceIn : GoodIn wsX2_trianglesOfColour wsX2_faceIn := goodIn_r _ [5, 6, 7, 8, 9, 32, 33, 34, 35, 36, 37] (by decide +kernel) (by decide +kernel)
set_option maxRecDepth 20000 in
theorem gX2_trianglesOfColour_X2_faceIn : GoodIn wsX2_trianglesOfColour (wsV RX2 76 RX2 yX2_faceIn wsX2_faceIn) := goodIn_app (goodIn_of _ (by decide +kernel)) ggX2_trianglesOfColour_X2_faceIn
set_option maxRecDepth 20000 in
theorem ggX2_trianglesOfColour_X4_columnOf : GoodIn wsX2_trianglesOfColour wsX4_columnOf := goodIn_r _ [11] (by decide +kernel) (by decide +kernel)
set_option maxRecDepth 20000 in
theorem gX2_trianglesOfColour_X4_columnOf_n89 : GoodIn wsX2_trianglesOfColour (wsX4_columnOf) := ggX2_trianglesOfColour_X4_columnOf
set_option maxRecDepth 20000 in
theorem ggX2_trianglesOfColour_X4_rowOf : GoodIn wsX2_trianglesOfColour wsX4_rowOf := goodIn_r _ [13] (by decide +kernel) (by decide +kernel)
set_option maxRecDepth 20000 in
theorem gX2_trianglesOfColour_X4_rowOf_n92 : GoodIn wsX2_trianglesOfColour (wsX4_rowOf) := ggX2_trianglesOfColour_X4_rowOf
set_option maxRecDepth 20000 in
theorem ggX2_trianglesOfColour_X4_heightOf : GoodIn wsX2_trianglesOfColour wsX4_heightOf := goodIn_r _ [15] (by decide +kernel) (by decide +kernel)
set_option maxRecDepth 20000 in
theorem gX2_trianglesOfColour_X4_heightOf_n95 : GoodIn wsX2_trianglesOfColour (wsX4_heightOf) := ggX2_trianglesOfColour_X4_heightOf
set_option maxRecDepth 20000 in
theorem ggX2_trianglesOfColour_X3_colourAt : GoodIn wsX2_trianglesOfColour wsX3_colourAt := goodIn_r _ [20, 21, 22, 23, 24, 19, 25, 26, 27, 28, 29, 30, 31, 7, 8, 9, 38, 39, 40, 41] (by decide +kernel) (by decide +kernel)
set_option maxRecDepth 20000 in
theorem gX2_trianglesOfColour_X3_colourAt : GoodIn wsX2_trianglesOfColour (wsV RX2 98 RX3 yX3_colourAt wsX3_colourAt) := goodIn_app (goodIn_of _ (by decide +kernel)) ggX2_trianglesOfColour_X3_colourAt
theorem dX2_trianglesOfColour_0 : decode cX2_trianglesOfColour 0 = .ok (.iconst 0, 1) := by decide +kernel
theorem dX2_trianglesOfColour_1 : decode cX2_trianglesOfColour 1 = .ok (.istore_n 3, 1) := by decide +kernel
theorem dX2_trianglesOfColour_2 : decode cX2_trianglesOfColour 2 = .ok (.iconst 0, 1) := by decide +kernel
theorem dX2_trianglesOfColour_3 : decode cX2_trianglesOfColour 3 = .ok (.istore 4, 2) := by decide +kernel
theorem dX2_trianglesOfColour_5 : decode cX2_trianglesOfColour 5 = .ok (.iload 4, 2) := by decide +kernel
theorem dX2_trianglesOfColour_7 : decode cX2_trianglesOfColour 7 = .ok (.sipush 512, 3) := by decide +kernel
theorem dX2_trianglesOfColour_10 : decode cX2_trianglesOfColour 10 = .ok (.if_icmp .ge 55, 3) := by decide +kernel
theorem dX2_trianglesOfColour_13 : decode cX2_trianglesOfColour 13 = .ok (.aload_n 0, 1) := by decide +kernel
theorem dX2_trianglesOfColour_14 : decode cX2_trianglesOfColour 14 = .ok (.iload 4, 2) := by decide +kernel
theorem dX2_trianglesOfColour_16 : decode cX2_trianglesOfColour 16 = .ok (.invokevirtual 76, 3) := by decide +kernel
theorem dX2_trianglesOfColour_19 : decode cX2_trianglesOfColour 19 = .ok (.iconst 3, 1) := by decide +kernel
theorem dX2_trianglesOfColour_20 : decode cX2_trianglesOfColour 20 = .ok (.idiv, 1) := by decide +kernel
theorem dX2_trianglesOfColour_21 : decode cX2_trianglesOfColour 21 = .ok (.istore 5, 2) := by decide +kernel
theorem dX2_trianglesOfColour_23 : decode cX2_trianglesOfColour 23 = .ok (.aload_n 0, 1) := by decide +kernel
theorem dX2_trianglesOfColour_24 : decode cX2_trianglesOfColour 24 = .ok (.iload 4, 2) := by decide +kernel
theorem dX2_trianglesOfColour_26 : decode cX2_trianglesOfColour 26 = .ok (.invokevirtual 76, 3) := by decide +kernel
theorem dX2_trianglesOfColour_29 : decode cX2_trianglesOfColour 29 = .ok (.iconst (-1), 1) := by decide +kernel
theorem dX2_trianglesOfColour_30 : decode cX2_trianglesOfColour 30 = .ok (.if_icmp .eq 29, 3) := by decide +kernel
theorem dX2_trianglesOfColour_33 : decode cX2_trianglesOfColour 33 = .ok (.aload_n 1, 1) := by decide +kernel
theorem dX2_trianglesOfColour_34 : decode cX2_trianglesOfColour 34 = .ok (.iload 5, 2) := by decide +kernel
theorem dX2_trianglesOfColour_36 : decode cX2_trianglesOfColour 36 = .ok (.invokestatic 89, 3) := by decide +kernel
theorem dX2_trianglesOfColour_39 : decode cX2_trianglesOfColour 39 = .ok (.iload 5, 2) := by decide +kernel
theorem dX2_trianglesOfColour_41 : decode cX2_trianglesOfColour 41 = .ok (.invokestatic 92, 3) := by decide +kernel
theorem dX2_trianglesOfColour_44 : decode cX2_trianglesOfColour 44 = .ok (.iload 5, 2) := by decide +kernel
theorem dX2_trianglesOfColour_46 : decode cX2_trianglesOfColour 46 = .ok (.invokestatic 95, 3) := by decide +kernel
theorem dX2_trianglesOfColour_49 : decode cX2_trianglesOfColour 49 = .ok (.invokevirtual 98, 3) := by decide +kernel
theorem dX2_trianglesOfColour_52 : decode cX2_trianglesOfColour 52 = .ok (.iload_n 2, 1) := by decide +kernel
theorem dX2_trianglesOfColour_53 : decode cX2_trianglesOfColour 53 = .ok (.if_icmp .ne 6, 3) := by decide +kernel
theorem dX2_trianglesOfColour_56 : decode cX2_trianglesOfColour 56 = .ok (.iinc 3 1, 3) := by decide +kernel
theorem dX2_trianglesOfColour_59 : decode cX2_trianglesOfColour 59 = .ok (.iinc 4 1, 3) := by decide +kernel
theorem dX2_trianglesOfColour_62 : decode cX2_trianglesOfColour 62 = .ok (.goto (-57), 3) := by decide +kernel
theorem dX2_trianglesOfColour_65 : decode cX2_trianglesOfColour 65 = .ok (.iload_n 3, 1) := by decide +kernel
theorem dX2_trianglesOfColour_66 : decode cX2_trianglesOfColour 66 = .ok (.ireturn, 1) := by decide +kernel
set_option maxRecDepth 20000 in
theorem ggX2_changeBy_X4_valueAt : GoodIn wsX2_changeBy wsX4_valueAt := goodIn_r _ [3] (by decide +kernel) (by decide +kernel)
set_option maxRecDepth 20000 in
theorem gX2_changeBy_X4_valueAt_n72 : GoodIn wsX2_changeBy (wsX4_valueAt) := ggX2_changeBy_X4_valueAt
set_option maxRecDepth 20000 in
theorem ggX2_changeBy_X4_setAt : GoodIn wsX2_changeBy wsX4_setAt := goodIn_r _ [5] (by decide +kernel) (by decide +kernel)
set_option maxRecDepth 20000 in
theorem gX2_changeBy_X4_setAt_n61 : GoodIn wsX2_changeBy (wsX4_setAt) := ggX2_changeBy_X4_setAt
theorem dX2_changeBy_0 : decode cX2_changeBy 0 = .ok (.aload_n 0, 1) := by decide +kernel
theorem dX2_changeBy_1 : decode cX2_changeBy 1 = .ok (.iload_n 1, 1) := by decide +kernel
theorem dX2_changeBy_2 : decode cX2_changeBy 2 = .ok (.aload_n 0, 1) := by decide +kernel
theorem dX2_changeBy_3 : decode cX2_changeBy 3 = .ok (.iload_n 1, 1) := by decide +kernel
theorem dX2_changeBy_4 : decode cX2_changeBy 4 = .ok (.invokestatic 72, 3) := by decide +kernel
theorem dX2_changeBy_7 : decode cX2_changeBy 7 = .ok (.iload_n 2, 1) := by decide +kernel
theorem dX2_changeBy_8 : decode cX2_changeBy 8 = .ok (.iadd, 1) := by decide +kernel
theorem dX2_changeBy_9 : decode cX2_changeBy 9 = .ok (.invokestatic 61, 3) := by decide +kernel
theorem dX2_changeBy_12 : decode cX2_changeBy 12 = .ok (.return_, 1) := by decide +kernel
theorem dX3_init_0 : decode cX3_init 0 = .ok (.aload_n 0, 1) := by decide +kernel
theorem dX3_init_1 : decode cX3_init 1 = .ok (.invokespecial 3, 3) := by decide +kernel
theorem dX3_init_4 : decode cX3_init 4 = .ok (.aload_n 0, 1) := by decide +kernel
theorem dX3_init_5 : decode cX3_init 5 = .ok (.bipush 36, 2) := by decide +kernel
theorem dX3_init_7 : decode cX3_init 7 = .ok (.newarray .int, 2) := by decide +kernel
theorem dX3_init_9 : decode cX3_init 9 = .ok (.putfield 9, 3) := by decide +kernel
theorem dX3_init_12 : decode cX3_init 12 = .ok (.aload_n 0, 1) := by decide +kernel
theorem dX3_init_13 : decode cX3_init 13 = .ok (.bipush 36, 2) := by decide +kernel
theorem dX3_init_15 : decode cX3_init 15 = .ok (.newarray .int, 2) := by decide +kernel
theorem dX3_init_17 : decode cX3_init 17 = .ok (.putfield 15, 3) := by decide +kernel
theorem dX3_init_20 : decode cX3_init 20 = .ok (.aload_n 0, 1) := by decide +kernel
theorem dX3_init_21 : decode cX3_init 21 = .ok (.iconst 4, 1) := by decide +kernel
theorem dX3_init_22 : decode cX3_init 22 = .ok (.putfield 18, 3) := by decide +kernel
theorem dX3_init_25 : decode cX3_init 25 = .ok (.aload_n 0, 1) := by decide +kernel
theorem dX3_init_26 : decode cX3_init 26 = .ok (.iconst 0, 1) := by decide +kernel
theorem dX3_init_27 : decode cX3_init 27 = .ok (.putfield 22, 3) := by decide +kernel
theorem dX3_init_30 : decode cX3_init 30 = .ok (.return_, 1) := by decide +kernel
set_option maxRecDepth 20000 in
theorem ggX3_empty_J7_fill_53178 : GoodIn wsX3_empty wsJ7_fill_53178 := goodIn_r _ [7] (by decide +kernel) (by decide +kernel)
set_option maxRecDepth 20000 in
theorem gX3_empty_J7_fill_53178 : GoodIn wsX3_empty (va_wsS RX3 25 yJ7_fill_53178 wsJ7_fill_53178) := goodIn_app (goodIn_of _ (by decide +kernel)) ggX3_empty_J7_fill_53178
theorem dX3_empty_0 : decode cX3_empty 0 = .ok (.aload_n 0, 1) := by decide +kernel
theorem dX3_empty_1 : decode cX3_empty 1 = .ok (.iload_n 1, 1) := by decide +kernel
theorem dX3_empty_2 : decode cX3_empty 2 = .ok (.putfield 18, 3) := by decide +kernel
theorem dX3_empty_5 : decode cX3_empty 5 = .ok (.aload_n 0, 1) := by decide +kernel
theorem dX3_empty_6 : decode cX3_empty 6 = .ok (.getfield 9, 3) := by decide +kernel
theorem dX3_empty_9 : decode cX3_empty 9 = .ok (.iconst 0, 1) := by decide +kernel
theorem dX3_empty_10 : decode cX3_empty 10 = .ok (.invokestatic 25, 3) := by decide +kernel
theorem dX3_empty_13 : decode cX3_empty 13 = .ok (.aload_n 0, 1) := by decide +kernel
theorem dX3_empty_14 : decode cX3_empty 14 = .ok (.getfield 15, 3) := by decide +kernel
theorem dX3_empty_17 : decode cX3_empty 17 = .ok (.iconst 0, 1) := by decide +kernel
theorem dX3_empty_18 : decode cX3_empty 18 = .ok (.invokestatic 25, 3) := by decide +kernel
theorem dX3_empty_21 : decode cX3_empty 21 = .ok (.return_, 1) := by decide +kernel
set_option maxRecDepth 20000 in
theorem ggX3_become_X4_valueAt : GoodIn wsX3_become wsX4_valueAt := goodIn_r _ [7] (by decide +kernel) (by decide +kernel)
set_option maxRecDepth 20000 in
theorem gX3_become_X4_valueAt_n31 : GoodIn wsX3_become (wsX4_valueAt) := ggX3_become_X4_valueAt
set_option maxRecDepth 20000 in
theorem ggX3_become_X4_setAt : GoodIn wsX3_become wsX4_setAt := goodIn_r _ [9] (by decide +kernel) (by decide +kernel)
set_option maxRecDepth 20000 in
theorem gX3_become_X4_setAt_n35 : GoodIn wsX3_become (wsX4_setAt) := ggX3_become_X4_setAt
theorem dX3_become_0 : decode cX3_become 0 = .ok (.aload_n 0, 1) := by decide +kernel
theorem dX3_become_1 : decode cX3_become 1 = .ok (.aload_n 1, 1) := by decide +kernel
theorem dX3_become_2 : decode cX3_become 2 = .ok (.getfield 18, 3) := by decide +kernel
theorem dX3_become_5 : decode cX3_become 5 = .ok (.putfield 18, 3) := by decide +kernel
theorem dX3_become_8 : decode cX3_become 8 = .ok (.aload_n 0, 1) := by decide +kernel
theorem dX3_become_9 : decode cX3_become 9 = .ok (.aload_n 1, 1) := by decide +kernel
theorem dX3_become_10 : decode cX3_become 10 = .ok (.getfield 22, 3) := by decide +kernel
theorem dX3_become_13 : decode cX3_become 13 = .ok (.putfield 22, 3) := by decide +kernel
theorem dX3_become_16 : decode cX3_become 16 = .ok (.iconst 0, 1) := by decide +kernel
theorem dX3_become_17 : decode cX3_become 17 = .ok (.istore_n 2, 1) := by decide +kernel
theorem dX3_become_18 : decode cX3_become 18 = .ok (.iload_n 2, 1) := by decide +kernel
theorem dX3_become_19 : decode cX3_become 19 = .ok (.bipush 36, 2) := by decide +kernel
theorem dX3_become_21 : decode cX3_become 21 = .ok (.if_icmp .ge 41, 3) := by decide +kernel
theorem dX3_become_24 : decode cX3_become 24 = .ok (.aload_n 0, 1) := by decide +kernel
theorem dX3_become_25 : decode cX3_become 25 = .ok (.getfield 9, 3) := by decide +kernel
theorem dX3_become_28 : decode cX3_become 28 = .ok (.iload_n 2, 1) := by decide +kernel
theorem dX3_become_29 : decode cX3_become 29 = .ok (.aload_n 1, 1) := by decide +kernel
theorem dX3_become_30 : decode cX3_become 30 = .ok (.getfield 9, 3) := by decide +kernel
theorem dX3_become_33 : decode cX3_become 33 = .ok (.iload_n 2, 1) := by decide +kernel
theorem dX3_become_34 : decode cX3_become 34 = .ok (.invokestatic 31, 3) := by decide +kernel
theorem dX3_become_37 : decode cX3_become 37 = .ok (.invokestatic 35, 3) := by decide +kernel
theorem dX3_become_40 : decode cX3_become 40 = .ok (.aload_n 0, 1) := by decide +kernel
theorem dX3_become_41 : decode cX3_become 41 = .ok (.getfield 15, 3) := by decide +kernel
theorem dX3_become_44 : decode cX3_become 44 = .ok (.iload_n 2, 1) := by decide +kernel
theorem dX3_become_45 : decode cX3_become 45 = .ok (.aload_n 1, 1) := by decide +kernel
theorem dX3_become_46 : decode cX3_become 46 = .ok (.getfield 15, 3) := by decide +kernel
theorem dX3_become_49 : decode cX3_become 49 = .ok (.iload_n 2, 1) := by decide +kernel
theorem dX3_become_50 : decode cX3_become 50 = .ok (.invokestatic 31, 3) := by decide +kernel
theorem dX3_become_53 : decode cX3_become 53 = .ok (.invokestatic 35, 3) := by decide +kernel
theorem dX3_become_56 : decode cX3_become 56 = .ok (.iinc 2 1, 3) := by decide +kernel
theorem dX3_become_59 : decode cX3_become 59 = .ok (.goto (-41), 3) := by decide +kernel
theorem dX3_become_62 : decode cX3_become 62 = .ok (.return_, 1) := by decide +kernel
set_option maxRecDepth 20000 in
theorem ggX3_becomeTurned_X3_empty : GoodIn wsX3_becomeTurned wsX3_empty := goodIn_r _ [9, 1, 3, 4, 10, 11, 12, 13, 23, 24, 25, 26] (by decide +kernel) (by decide +kernel)
set_option maxRecDepth 20000 in
theorem gX3_becomeTurned_X3_empty : GoodIn wsX3_becomeTurned (wsV RX3 39 RX3 yX3_empty wsX3_empty) := goodIn_app (goodIn_of _ (by decide +kernel)) ggX3_becomeTurned_X3_empty
set_option maxRecDepth 20000 in
theorem ggX3_becomeTurned_X3_squareAt : GoodIn wsX3_becomeTurned wsX3_squareAt := goodIn_r _ [17, 1, 23, 24, 25, 26] (by decide +kernel) (by decide +kernel)
set_option maxRecDepth 20000 in
theorem gX3_becomeTurned_X3_squareAt : GoodIn wsX3_becomeTurned (wsV RX3 43 RX3 yX3_squareAt wsX3_squareAt) := goodIn_app (goodIn_of _ (by decide +kernel)) ggX3_becomeTurned_X3_squareAt
set_option maxRecDepth 20000 in
theorem ggX3_becomeTurned_X4_valueAt : GoodIn wsX3_becomeTurned wsX4_valueAt := goodIn_r _ [20] (by decide +kernel) (by decide +kernel)
set_option maxRecDepth 20000 in
theorem gX3_becomeTurned_X4_valueAt_n31 : GoodIn wsX3_becomeTurned (wsX4_valueAt) := ggX3_becomeTurned_X4_valueAt
set_option maxRecDepth 20000 in
theorem ggX3_becomeTurned_X4_setAt : GoodIn wsX3_becomeTurned wsX4_setAt := goodIn_r _ [22] (by decide +kernel) (by decide +kernel)
set_option maxRecDepth 20000 in
theorem gX3_becomeTurned_X4_setAt_n35 : GoodIn wsX3_becomeTurned (wsX4_setAt) := ggX3_becomeTurned_X4_setAt
theorem dX3_becomeTurned_0 : decode cX3_becomeTurned 0 = .ok (.aload_n 0, 1) := by decide +kernel
theorem dX3_becomeTurned_1 : decode cX3_becomeTurned 1 = .ok (.aload_n 1, 1) := by decide +kernel
theorem dX3_becomeTurned_2 : decode cX3_becomeTurned 2 = .ok (.getfield 18, 3) := by decide +kernel
theorem dX3_becomeTurned_5 : decode cX3_becomeTurned 5 = .ok (.invokevirtual 39, 3) := by decide +kernel
theorem dX3_becomeTurned_8 : decode cX3_becomeTurned 8 = .ok (.aload_n 0, 1) := by decide +kernel
theorem dX3_becomeTurned_9 : decode cX3_becomeTurned 9 = .ok (.aload_n 1, 1) := by decide +kernel
theorem dX3_becomeTurned_10 : decode cX3_becomeTurned 10 = .ok (.getfield 22, 3) := by decide +kernel
theorem dX3_becomeTurned_13 : decode cX3_becomeTurned 13 = .ok (.putfield 22, 3) := by decide +kernel
theorem dX3_becomeTurned_16 : decode cX3_becomeTurned 16 = .ok (.iconst 0, 1) := by decide +kernel
theorem dX3_becomeTurned_17 : decode cX3_becomeTurned 17 = .ok (.istore_n 2, 1) := by decide +kernel
theorem dX3_becomeTurned_18 : decode cX3_becomeTurned 18 = .ok (.iload_n 2, 1) := by decide +kernel
theorem dX3_becomeTurned_19 : decode cX3_becomeTurned 19 = .ok (.aload_n 0, 1) := by decide +kernel
theorem dX3_becomeTurned_20 : decode cX3_becomeTurned 20 = .ok (.getfield 18, 3) := by decide +kernel
theorem dX3_becomeTurned_23 : decode cX3_becomeTurned 23 = .ok (.if_icmp .ge 84, 3) := by decide +kernel
theorem dX3_becomeTurned_26 : decode cX3_becomeTurned 26 = .ok (.iconst 0, 1) := by decide +kernel
theorem dX3_becomeTurned_27 : decode cX3_becomeTurned 27 = .ok (.istore_n 3, 1) := by decide +kernel
theorem dX3_becomeTurned_28 : decode cX3_becomeTurned 28 = .ok (.iload_n 3, 1) := by decide +kernel
theorem dX3_becomeTurned_29 : decode cX3_becomeTurned 29 = .ok (.aload_n 0, 1) := by decide +kernel
theorem dX3_becomeTurned_30 : decode cX3_becomeTurned 30 = .ok (.getfield 18, 3) := by decide +kernel
theorem dX3_becomeTurned_33 : decode cX3_becomeTurned 33 = .ok (.if_icmp .ge 68, 3) := by decide +kernel
theorem dX3_becomeTurned_36 : decode cX3_becomeTurned 36 = .ok (.aload_n 1, 1) := by decide +kernel
theorem dX3_becomeTurned_37 : decode cX3_becomeTurned 37 = .ok (.iload_n 3, 1) := by decide +kernel
theorem dX3_becomeTurned_38 : decode cX3_becomeTurned 38 = .ok (.iload_n 2, 1) := by decide +kernel
theorem dX3_becomeTurned_39 : decode cX3_becomeTurned 39 = .ok (.invokevirtual 43, 3) := by decide +kernel
theorem dX3_becomeTurned_42 : decode cX3_becomeTurned 42 = .ok (.istore 4, 2) := by decide +kernel
theorem dX3_becomeTurned_44 : decode cX3_becomeTurned 44 = .ok (.aload_n 0, 1) := by decide +kernel
theorem dX3_becomeTurned_45 : decode cX3_becomeTurned 45 = .ok (.aload_n 0, 1) := by decide +kernel
theorem dX3_becomeTurned_46 : decode cX3_becomeTurned 46 = .ok (.getfield 18, 3) := by decide +kernel
theorem dX3_becomeTurned_49 : decode cX3_becomeTurned 49 = .ok (.iconst 1, 1) := by decide +kernel
theorem dX3_becomeTurned_50 : decode cX3_becomeTurned 50 = .ok (.isub, 1) := by decide +kernel
theorem dX3_becomeTurned_51 : decode cX3_becomeTurned 51 = .ok (.iload_n 2, 1) := by decide +kernel
theorem dX3_becomeTurned_52 : decode cX3_becomeTurned 52 = .ok (.isub, 1) := by decide +kernel
theorem dX3_becomeTurned_53 : decode cX3_becomeTurned 53 = .ok (.iload_n 3, 1) := by decide +kernel
theorem dX3_becomeTurned_54 : decode cX3_becomeTurned 54 = .ok (.invokevirtual 43, 3) := by decide +kernel
theorem dX3_becomeTurned_57 : decode cX3_becomeTurned 57 = .ok (.istore 5, 2) := by decide +kernel
theorem dX3_becomeTurned_59 : decode cX3_becomeTurned 59 = .ok (.aload_n 0, 1) := by decide +kernel
theorem dX3_becomeTurned_60 : decode cX3_becomeTurned 60 = .ok (.getfield 9, 3) := by decide +kernel
theorem dX3_becomeTurned_63 : decode cX3_becomeTurned 63 = .ok (.iload 5, 2) := by decide +kernel
theorem dX3_becomeTurned_65 : decode cX3_becomeTurned 65 = .ok (.aload_n 1, 1) := by decide +kernel
theorem dX3_becomeTurned_66 : decode cX3_becomeTurned 66 = .ok (.getfield 9, 3) := by decide +kernel
theorem dX3_becomeTurned_69 : decode cX3_becomeTurned 69 = .ok (.iload 4, 2) := by decide +kernel
theorem dX3_becomeTurned_71 : decode cX3_becomeTurned 71 = .ok (.invokestatic 31, 3) := by decide +kernel
theorem dX3_becomeTurned_74 : decode cX3_becomeTurned 74 = .ok (.invokestatic 35, 3) := by decide +kernel
theorem dX3_becomeTurned_77 : decode cX3_becomeTurned 77 = .ok (.aload_n 0, 1) := by decide +kernel
theorem dX3_becomeTurned_78 : decode cX3_becomeTurned 78 = .ok (.getfield 15, 3) := by decide +kernel
theorem dX3_becomeTurned_81 : decode cX3_becomeTurned 81 = .ok (.iload 5, 2) := by decide +kernel
theorem dX3_becomeTurned_83 : decode cX3_becomeTurned 83 = .ok (.aload_n 1, 1) := by decide +kernel
theorem dX3_becomeTurned_84 : decode cX3_becomeTurned 84 = .ok (.getfield 15, 3) := by decide +kernel
theorem dX3_becomeTurned_87 : decode cX3_becomeTurned 87 = .ok (.iload 4, 2) := by decide +kernel
theorem dX3_becomeTurned_89 : decode cX3_becomeTurned 89 = .ok (.invokestatic 31, 3) := by decide +kernel
theorem dX3_becomeTurned_92 : decode cX3_becomeTurned 92 = .ok (.invokestatic 35, 3) := by decide +kernel
theorem dX3_becomeTurned_95 : decode cX3_becomeTurned 95 = .ok (.iinc 3 1, 3) := by decide +kernel
theorem dX3_becomeTurned_98 : decode cX3_becomeTurned 98 = .ok (.goto (-70), 3) := by decide +kernel
theorem dX3_becomeTurned_101 : decode cX3_becomeTurned 101 = .ok (.iinc 2 1, 3) := by decide +kernel
theorem dX3_becomeTurned_104 : decode cX3_becomeTurned 104 = .ok (.goto (-86), 3) := by decide +kernel
theorem dX3_becomeTurned_107 : decode cX3_becomeTurned 107 = .ok (.return_, 1) := by decide +kernel
set_option maxRecDepth 20000 in
theorem ggX3_hasSquare_X3_squareAt : GoodIn wsX3_hasSquare wsX3_squareAt := goodIn_r _ [5, 6, 7, 8, 9, 10] (by decide +kernel) (by decide +kernel)
set_option maxRecDepth 20000 in
theorem gX3_hasSquare_X3_squareAt : GoodIn wsX3_hasSquare (wsV RX3 43 RX3 yX3_squareAt wsX3_squareAt) := goodIn_app (goodIn_of _ (by decide +kernel)) ggX3_hasSquare_X3_squareAt
theorem dX3_hasSquare_0 : decode cX3_hasSquare 0 = .ok (.aload_n 0, 1) := by decide +kernel
theorem dX3_hasSquare_1 : decode cX3_hasSquare 1 = .ok (.iload_n 1, 1) := by decide +kernel
theorem dX3_hasSquare_2 : decode cX3_hasSquare 2 = .ok (.iload_n 2, 1) := by decide +kernel
theorem dX3_hasSquare_3 : decode cX3_hasSquare 3 = .ok (.invokevirtual 43, 3) := by decide +kernel
theorem dX3_hasSquare_6 : decode cX3_hasSquare 6 = .ok (.iconst (-1), 1) := by decide +kernel
theorem dX3_hasSquare_7 : decode cX3_hasSquare 7 = .ok (.if_icmp .eq 7, 3) := by decide +kernel
theorem dX3_hasSquare_10 : decode cX3_hasSquare 10 = .ok (.iconst 1, 1) := by decide +kernel
theorem dX3_hasSquare_11 : decode cX3_hasSquare 11 = .ok (.goto 4, 3) := by decide +kernel
theorem dX3_hasSquare_14 : decode cX3_hasSquare 14 = .ok (.iconst 0, 1) := by decide +kernel
theorem dX3_hasSquare_15 : decode cX3_hasSquare 15 = .ok (.ireturn, 1) := by decide +kernel
theorem dX3_squareAt_0 : decode cX3_squareAt 0 = .ok (.iload_n 1, 1) := by decide +kernel
theorem dX3_squareAt_1 : decode cX3_squareAt 1 = .ok (.ifCond .lt 32, 3) := by decide +kernel
theorem dX3_squareAt_4 : decode cX3_squareAt 4 = .ok (.iload_n 1, 1) := by decide +kernel
theorem dX3_squareAt_5 : decode cX3_squareAt 5 = .ok (.aload_n 0, 1) := by decide +kernel
theorem dX3_squareAt_6 : decode cX3_squareAt 6 = .ok (.getfield 18, 3) := by decide +kernel
theorem dX3_squareAt_9 : decode cX3_squareAt 9 = .ok (.if_icmp .ge 24, 3) := by decide +kernel
theorem dX3_squareAt_12 : decode cX3_squareAt 12 = .ok (.iload_n 2, 1) := by decide +kernel
theorem dX3_squareAt_13 : decode cX3_squareAt 13 = .ok (.ifCond .lt 20, 3) := by decide +kernel
theorem dX3_squareAt_16 : decode cX3_squareAt 16 = .ok (.iload_n 2, 1) := by decide +kernel
theorem dX3_squareAt_17 : decode cX3_squareAt 17 = .ok (.aload_n 0, 1) := by decide +kernel
theorem dX3_squareAt_18 : decode cX3_squareAt 18 = .ok (.getfield 18, 3) := by decide +kernel
theorem dX3_squareAt_21 : decode cX3_squareAt 21 = .ok (.if_icmp .ge 12, 3) := by decide +kernel
theorem dX3_squareAt_24 : decode cX3_squareAt 24 = .ok (.iload_n 2, 1) := by decide +kernel
theorem dX3_squareAt_25 : decode cX3_squareAt 25 = .ok (.bipush 6, 2) := by decide +kernel
theorem dX3_squareAt_27 : decode cX3_squareAt 27 = .ok (.imul, 1) := by decide +kernel
theorem dX3_squareAt_28 : decode cX3_squareAt 28 = .ok (.iload_n 1, 1) := by decide +kernel
theorem dX3_squareAt_29 : decode cX3_squareAt 29 = .ok (.iadd, 1) := by decide +kernel
theorem dX3_squareAt_30 : decode cX3_squareAt 30 = .ok (.goto 4, 3) := by decide +kernel
theorem dX3_squareAt_33 : decode cX3_squareAt 33 = .ok (.iconst (-1), 1) := by decide +kernel
theorem dX3_squareAt_34 : decode cX3_squareAt 34 = .ok (.ireturn, 1) := by decide +kernel
set_option maxRecDepth 20000 in
theorem ggX3_heightAt_X3_squareAt : GoodIn wsX3_heightAt wsX3_squareAt := goodIn_r _ [6, 7, 11, 12, 13, 14] (by decide +kernel) (by decide +kernel)
set_option maxRecDepth 20000 in
theorem gX3_heightAt_X3_squareAt : GoodIn wsX3_heightAt (wsV RX3 43 RX3 yX3_squareAt wsX3_squareAt) := goodIn_app (goodIn_of _ (by decide +kernel)) ggX3_heightAt_X3_squareAt
set_option maxRecDepth 20000 in
theorem ggX3_heightAt_X4_valueAt : GoodIn wsX3_heightAt wsX4_valueAt := goodIn_r _ [10] (by decide +kernel) (by decide +kernel)
set_option maxRecDepth 20000 in
theorem gX3_heightAt_X4_valueAt_n31 : GoodIn wsX3_heightAt (wsX4_valueAt) := ggX3_heightAt_X4_valueAt
theorem dX3_heightAt_0 : decode cX3_heightAt 0 = .ok (.aload_n 0, 1) := by decide +kernel
theorem dX3_heightAt_1 : decode cX3_heightAt 1 = .ok (.getfield 9, 3) := by decide +kernel
theorem dX3_heightAt_4 : decode cX3_heightAt 4 = .ok (.aload_n 0, 1) := by decide +kernel
theorem dX3_heightAt_5 : decode cX3_heightAt 5 = .ok (.iload_n 1, 1) := by decide +kernel
theorem dX3_heightAt_6 : decode cX3_heightAt 6 = .ok (.iload_n 2, 1) := by decide +kernel
theorem dX3_heightAt_7 : decode cX3_heightAt 7 = .ok (.invokevirtual 43, 3) := by decide +kernel
theorem dX3_heightAt_10 : decode cX3_heightAt 10 = .ok (.invokestatic 31, 3) := by decide +kernel
theorem dX3_heightAt_13 : decode cX3_heightAt 13 = .ok (.ireturn, 1) := by decide +kernel
set_option maxRecDepth 20000 in
theorem ggX3_colourAt_X3_heightAt : GoodIn wsX3_colourAt wsX3_heightAt := goodIn_r _ [6, 7, 8, 9, 10, 5, 11, 12, 13, 14, 15, 16, 17, 18, 19] (by decide +kernel) (by decide +kernel)
set_option maxRecDepth 20000 in
theorem gX3_colourAt_X3_heightAt : GoodIn wsX3_colourAt (wsV RX3 47 RX3 yX3_heightAt wsX3_heightAt) := goodIn_app (goodIn_of _ (by decide +kernel)) ggX3_colourAt_X3_heightAt
set_option maxRecDepth 20000 in
theorem ggX3_colourAt_X3_squareAt : GoodIn wsX3_colourAt wsX3_squareAt := goodIn_r _ [11, 12, 16, 17, 18, 19] (by decide +kernel) (by decide +kernel)
set_option maxRecDepth 20000 in
theorem gX3_colourAt_X3_squareAt : GoodIn wsX3_colourAt (wsV RX3 43 RX3 yX3_squareAt wsX3_squareAt) := goodIn_app (goodIn_of _ (by decide +kernel)) ggX3_colourAt_X3_squareAt
set_option maxRecDepth 20000 in
theorem ggX3_colourAt_X4_valueAt : GoodIn wsX3_colourAt wsX4_valueAt := goodIn_r _ [15] (by decide +kernel) (by decide +kernel)
set_option maxRecDepth 20000 in
theorem gX3_colourAt_X4_valueAt_n31 : GoodIn wsX3_colourAt (wsX4_valueAt) := ggX3_colourAt_X4_valueAt
theorem dX3_colourAt_0 : decode cX3_colourAt 0 = .ok (.iload_n 3, 1) := by decide +kernel
theorem dX3_colourAt_1 : decode cX3_colourAt 1 = .ok (.ifCond .lt 13, 3) := by decide +kernel
theorem dX3_colourAt_4 : decode cX3_colourAt 4 = .ok (.iload_n 3, 1) := by decide +kernel
theorem dX3_colourAt_5 : decode cX3_colourAt 5 = .ok (.aload_n 0, 1) := by decide +kernel
theorem dX3_colourAt_6 : decode cX3_colourAt 6 = .ok (.iload_n 1, 1) := by decide +kernel
theorem dX3_colourAt_7 : decode cX3_colourAt 7 = .ok (.iload_n 2, 1) := by decide +kernel
theorem dX3_colourAt_8 : decode cX3_colourAt 8 = .ok (.invokevirtual 47, 3) := by decide +kernel
theorem dX3_colourAt_11 : decode cX3_colourAt 11 = .ok (.if_icmp .lt 5, 3) := by decide +kernel
theorem dX3_colourAt_14 : decode cX3_colourAt 14 = .ok (.iconst (-1), 1) := by decide +kernel
theorem dX3_colourAt_15 : decode cX3_colourAt 15 = .ok (.ireturn, 1) := by decide +kernel
theorem dX3_colourAt_16 : decode cX3_colourAt 16 = .ok (.aload_n 0, 1) := by decide +kernel
theorem dX3_colourAt_17 : decode cX3_colourAt 17 = .ok (.getfield 15, 3) := by decide +kernel
theorem dX3_colourAt_20 : decode cX3_colourAt 20 = .ok (.aload_n 0, 1) := by decide +kernel
theorem dX3_colourAt_21 : decode cX3_colourAt 21 = .ok (.iload_n 1, 1) := by decide +kernel
theorem dX3_colourAt_22 : decode cX3_colourAt 22 = .ok (.iload_n 2, 1) := by decide +kernel
theorem dX3_colourAt_23 : decode cX3_colourAt 23 = .ok (.invokevirtual 43, 3) := by decide +kernel
theorem dX3_colourAt_26 : decode cX3_colourAt 26 = .ok (.invokestatic 31, 3) := by decide +kernel
theorem dX3_colourAt_29 : decode cX3_colourAt 29 = .ok (.iconst 2, 1) := by decide +kernel
theorem dX3_colourAt_30 : decode cX3_colourAt 30 = .ok (.iload_n 3, 1) := by decide +kernel
theorem dX3_colourAt_31 : decode cX3_colourAt 31 = .ok (.imul, 1) := by decide +kernel
theorem dX3_colourAt_32 : decode cX3_colourAt 32 = .ok (.ishr, 1) := by decide +kernel
theorem dX3_colourAt_33 : decode cX3_colourAt 33 = .ok (.iconst 3, 1) := by decide +kernel
theorem dX3_colourAt_34 : decode cX3_colourAt 34 = .ok (.iand, 1) := by decide +kernel
theorem dX3_colourAt_35 : decode cX3_colourAt 35 = .ok (.ireturn, 1) := by decide +kernel
set_option maxRecDepth 20000 in
theorem ggX3_topColour_X3_heightAt : GoodIn wsX3_topColour wsX3_heightAt := goodIn_r _ [5, 6, 7, 8, 9, 4, 10, 11, 12, 13, 14, 20, 21, 22, 23] (by decide +kernel) (by decide +kernel)
set_option maxRecDepth 20000 in
theorem gX3_topColour_X3_heightAt : GoodIn wsX3_topColour (wsV RX3 47 RX3 yX3_heightAt wsX3_heightAt) := goodIn_app (goodIn_of _ (by decide +kernel)) ggX3_topColour_X3_heightAt
set_option maxRecDepth 20000 in
theorem ggX3_topColour_X3_colourAt : GoodIn wsX3_topColour wsX3_colourAt := goodIn_r _ [18, 19, 1, 2, 3, 4, 5, 6, 7, 8, 9, 10, 11, 12, 13, 14, 20, 21, 22, 23] (by decide +kernel) (by decide +kernel)
set_option maxRecDepth 20000 in
theorem gX3_topColour_X3_colourAt : GoodIn wsX3_topColour (wsV RX3 50 RX3 yX3_colourAt wsX3_colourAt) := goodIn_app (goodIn_of _ (by decide +kernel)) ggX3_topColour_X3_colourAt
theorem dX3_topColour_0 : decode cX3_topColour 0 = .ok (.aload_n 0, 1) := by decide +kernel
theorem dX3_topColour_1 : decode cX3_topColour 1 = .ok (.iload_n 1, 1) := by decide +kernel
theorem dX3_topColour_2 : decode cX3_topColour 2 = .ok (.iload_n 2, 1) := by decide +kernel
theorem dX3_topColour_3 : decode cX3_topColour 3 = .ok (.aload_n 0, 1) := by decide +kernel
theorem dX3_topColour_4 : decode cX3_topColour 4 = .ok (.iload_n 1, 1) := by decide +kernel
theorem dX3_topColour_5 : decode cX3_topColour 5 = .ok (.iload_n 2, 1) := by decide +kernel
theorem dX3_topColour_6 : decode cX3_topColour 6 = .ok (.invokevirtual 47, 3) := by decide +kernel
theorem dX3_topColour_9 : decode cX3_topColour 9 = .ok (.iconst 1, 1) := by decide +kernel
theorem dX3_topColour_10 : decode cX3_topColour 10 = .ok (.isub, 1) := by decide +kernel
theorem dX3_topColour_11 : decode cX3_topColour 11 = .ok (.invokevirtual 50, 3) := by decide +kernel
theorem dX3_topColour_14 : decode cX3_topColour 14 = .ok (.ireturn, 1) := by decide +kernel
set_option maxRecDepth 20000 in
theorem ggX3_addBlock_X3_squareAt : GoodIn wsX3_addBlock wsX3_squareAt := goodIn_r _ [7, 8, 14, 15, 16, 17] (by decide +kernel) (by decide +kernel)
set_option maxRecDepth 20000 in
theorem gX3_addBlock_X3_squareAt : GoodIn wsX3_addBlock (wsV RX3 43 RX3 yX3_squareAt wsX3_squareAt) := goodIn_app (goodIn_of _ (by decide +kernel)) ggX3_addBlock_X3_squareAt
set_option maxRecDepth 20000 in
theorem ggX3_addBlock_X4_valueAt : GoodIn wsX3_addBlock wsX4_valueAt := goodIn_r _ [11] (by decide +kernel) (by decide +kernel)
set_option maxRecDepth 20000 in
theorem gX3_addBlock_X4_valueAt_n31 : GoodIn wsX3_addBlock (wsX4_valueAt) := ggX3_addBlock_X4_valueAt
set_option maxRecDepth 20000 in
theorem ggX3_addBlock_X4_setAt : GoodIn wsX3_addBlock wsX4_setAt := goodIn_r _ [13] (by decide +kernel) (by decide +kernel)
set_option maxRecDepth 20000 in
theorem gX3_addBlock_X4_setAt_n35 : GoodIn wsX3_addBlock (wsX4_setAt) := ggX3_addBlock_X4_setAt
theorem dX3_addBlock_0 : decode cX3_addBlock 0 = .ok (.aload_n 0, 1) := by decide +kernel
theorem dX3_addBlock_1 : decode cX3_addBlock 1 = .ok (.iload_n 1, 1) := by decide +kernel
theorem dX3_addBlock_2 : decode cX3_addBlock 2 = .ok (.iload_n 2, 1) := by decide +kernel
theorem dX3_addBlock_3 : decode cX3_addBlock 3 = .ok (.invokevirtual 43, 3) := by decide +kernel
theorem dX3_addBlock_6 : decode cX3_addBlock 6 = .ok (.istore 4, 2) := by decide +kernel
theorem dX3_addBlock_8 : decode cX3_addBlock 8 = .ok (.aload_n 0, 1) := by decide +kernel
theorem dX3_addBlock_9 : decode cX3_addBlock 9 = .ok (.getfield 9, 3) := by decide +kernel
theorem dX3_addBlock_12 : decode cX3_addBlock 12 = .ok (.iload 4, 2) := by decide +kernel
theorem dX3_addBlock_14 : decode cX3_addBlock 14 = .ok (.invokestatic 31, 3) := by decide +kernel
theorem dX3_addBlock_17 : decode cX3_addBlock 17 = .ok (.istore 5, 2) := by decide +kernel
theorem dX3_addBlock_19 : decode cX3_addBlock 19 = .ok (.iload 5, 2) := by decide +kernel
theorem dX3_addBlock_21 : decode cX3_addBlock 21 = .ok (.bipush 8, 2) := by decide +kernel
theorem dX3_addBlock_23 : decode cX3_addBlock 23 = .ok (.if_icmp .ge 41, 3) := by decide +kernel
theorem dX3_addBlock_26 : decode cX3_addBlock 26 = .ok (.aload_n 0, 1) := by decide +kernel
theorem dX3_addBlock_27 : decode cX3_addBlock 27 = .ok (.getfield 15, 3) := by decide +kernel
theorem dX3_addBlock_30 : decode cX3_addBlock 30 = .ok (.iload 4, 2) := by decide +kernel
theorem dX3_addBlock_32 : decode cX3_addBlock 32 = .ok (.aload_n 0, 1) := by decide +kernel
theorem dX3_addBlock_33 : decode cX3_addBlock 33 = .ok (.getfield 15, 3) := by decide +kernel
theorem dX3_addBlock_36 : decode cX3_addBlock 36 = .ok (.iload 4, 2) := by decide +kernel
theorem dX3_addBlock_38 : decode cX3_addBlock 38 = .ok (.invokestatic 31, 3) := by decide +kernel
theorem dX3_addBlock_41 : decode cX3_addBlock 41 = .ok (.iload_n 3, 1) := by decide +kernel
theorem dX3_addBlock_42 : decode cX3_addBlock 42 = .ok (.iconst 2, 1) := by decide +kernel
theorem dX3_addBlock_43 : decode cX3_addBlock 43 = .ok (.iload 5, 2) := by decide +kernel
theorem dX3_addBlock_45 : decode cX3_addBlock 45 = .ok (.imul, 1) := by decide +kernel
theorem dX3_addBlock_46 : decode cX3_addBlock 46 = .ok (.ishl, 1) := by decide +kernel
theorem dX3_addBlock_47 : decode cX3_addBlock 47 = .ok (.ior, 1) := by decide +kernel
theorem dX3_addBlock_48 : decode cX3_addBlock 48 = .ok (.invokestatic 35, 3) := by decide +kernel
theorem dX3_addBlock_51 : decode cX3_addBlock 51 = .ok (.aload_n 0, 1) := by decide +kernel
theorem dX3_addBlock_52 : decode cX3_addBlock 52 = .ok (.getfield 9, 3) := by decide +kernel
theorem dX3_addBlock_55 : decode cX3_addBlock 55 = .ok (.iload 4, 2) := by decide +kernel
theorem dX3_addBlock_57 : decode cX3_addBlock 57 = .ok (.iload 5, 2) := by decide +kernel
theorem dX3_addBlock_59 : decode cX3_addBlock 59 = .ok (.iconst 1, 1) := by decide +kernel
theorem dX3_addBlock_60 : decode cX3_addBlock 60 = .ok (.iadd, 1) := by decide +kernel
theorem dX3_addBlock_61 : decode cX3_addBlock 61 = .ok (.invokestatic 35, 3) := by decide +kernel
theorem dX3_addBlock_64 : decode cX3_addBlock 64 = .ok (.return_, 1) := by decide +kernel
set_option maxRecDepth 20000 in
theorem ggX3_removeBlock_X3_heightAt : GoodIn wsX3_removeBlock wsX3_heightAt := goodIn_r _ [5, 6, 7, 8, 9, 4, 10, 11, 12, 13, 14, 22, 23, 24, 25] (by decide +kernel) (by decide +kernel)
set_option maxRecDepth 20000 in
theorem gX3_removeBlock_X3_heightAt : GoodIn wsX3_removeBlock (wsV RX3 47 RX3 yX3_heightAt wsX3_heightAt) := goodIn_app (goodIn_of _ (by decide +kernel)) ggX3_removeBlock_X3_heightAt
set_option maxRecDepth 20000 in
theorem ggX3_removeBlock_X3_lowerTo : GoodIn wsX3_removeBlock wsX3_lowerTo := goodIn_r _ [18, 6, 19, 7, 8, 9, 4, 10, 11, 12, 13, 14, 20, 21, 22, 23, 24, 25] (by decide +kernel) (by decide +kernel)
set_option maxRecDepth 20000 in
theorem gX3_removeBlock_X3_lowerTo : GoodIn wsX3_removeBlock (wsV RX3 54 RX3 yX3_lowerTo wsX3_lowerTo) := goodIn_app (goodIn_of _ (by decide +kernel)) ggX3_removeBlock_X3_lowerTo
theorem dX3_removeBlock_0 : decode cX3_removeBlock 0 = .ok (.aload_n 0, 1) := by decide +kernel
theorem dX3_removeBlock_1 : decode cX3_removeBlock 1 = .ok (.iload_n 1, 1) := by decide +kernel
theorem dX3_removeBlock_2 : decode cX3_removeBlock 2 = .ok (.iload_n 2, 1) := by decide +kernel
theorem dX3_removeBlock_3 : decode cX3_removeBlock 3 = .ok (.aload_n 0, 1) := by decide +kernel
theorem dX3_removeBlock_4 : decode cX3_removeBlock 4 = .ok (.iload_n 1, 1) := by decide +kernel
theorem dX3_removeBlock_5 : decode cX3_removeBlock 5 = .ok (.iload_n 2, 1) := by decide +kernel
theorem dX3_removeBlock_6 : decode cX3_removeBlock 6 = .ok (.invokevirtual 47, 3) := by decide +kernel
theorem dX3_removeBlock_9 : decode cX3_removeBlock 9 = .ok (.iconst 1, 1) := by decide +kernel
theorem dX3_removeBlock_10 : decode cX3_removeBlock 10 = .ok (.isub, 1) := by decide +kernel
theorem dX3_removeBlock_11 : decode cX3_removeBlock 11 = .ok (.invokevirtual 54, 3) := by decide +kernel
theorem dX3_removeBlock_14 : decode cX3_removeBlock 14 = .ok (.return_, 1) := by decide +kernel
set_option maxRecDepth 20000 in
theorem ggX3_lowerTo_X3_squareAt : GoodIn wsX3_lowerTo wsX3_squareAt := goodIn_r _ [7, 8, 14, 15, 16, 17] (by decide +kernel) (by decide +kernel)
set_option maxRecDepth 20000 in
theorem gX3_lowerTo_X3_squareAt : GoodIn wsX3_lowerTo (wsV RX3 43 RX3 yX3_squareAt wsX3_squareAt) := goodIn_app (goodIn_of _ (by decide +kernel)) ggX3_lowerTo_X3_squareAt
set_option maxRecDepth 20000 in
theorem ggX3_lowerTo_X4_valueAt : GoodIn wsX3_lowerTo wsX4_valueAt := goodIn_r _ [11] (by decide +kernel) (by decide +kernel)
set_option maxRecDepth 20000 in
theorem gX3_lowerTo_X4_valueAt_n31 : GoodIn wsX3_lowerTo (wsX4_valueAt) := ggX3_lowerTo_X4_valueAt
set_option maxRecDepth 20000 in
theorem ggX3_lowerTo_X4_setAt : GoodIn wsX3_lowerTo wsX4_setAt := goodIn_r _ [13] (by decide +kernel) (by decide +kernel)
set_option maxRecDepth 20000 in
theorem gX3_lowerTo_X4_setAt_n35 : GoodIn wsX3_lowerTo (wsX4_setAt) := ggX3_lowerTo_X4_setAt
theorem dX3_lowerTo_0 : decode cX3_lowerTo 0 = .ok (.aload_n 0, 1) := by decide +kernel
theorem dX3_lowerTo_1 : decode cX3_lowerTo 1 = .ok (.iload_n 1, 1) := by decide +kernel
theorem dX3_lowerTo_2 : decode cX3_lowerTo 2 = .ok (.iload_n 2, 1) := by decide +kernel
theorem dX3_lowerTo_3 : decode cX3_lowerTo 3 = .ok (.invokevirtual 43, 3) := by decide +kernel
theorem dX3_lowerTo_6 : decode cX3_lowerTo 6 = .ok (.istore 4, 2) := by decide +kernel
theorem dX3_lowerTo_8 : decode cX3_lowerTo 8 = .ok (.iload_n 3, 1) := by decide +kernel
theorem dX3_lowerTo_9 : decode cX3_lowerTo 9 = .ok (.ifCond .lt 52, 3) := by decide +kernel
theorem dX3_lowerTo_12 : decode cX3_lowerTo 12 = .ok (.iload_n 3, 1) := by decide +kernel
theorem dX3_lowerTo_13 : decode cX3_lowerTo 13 = .ok (.aload_n 0, 1) := by decide +kernel
theorem dX3_lowerTo_14 : decode cX3_lowerTo 14 = .ok (.getfield 9, 3) := by decide +kernel
theorem dX3_lowerTo_17 : decode cX3_lowerTo 17 = .ok (.iload 4, 2) := by decide +kernel
theorem dX3_lowerTo_19 : decode cX3_lowerTo 19 = .ok (.invokestatic 31, 3) := by decide +kernel
theorem dX3_lowerTo_22 : decode cX3_lowerTo 22 = .ok (.if_icmp .ge 39, 3) := by decide +kernel
theorem dX3_lowerTo_25 : decode cX3_lowerTo 25 = .ok (.aload_n 0, 1) := by decide +kernel
theorem dX3_lowerTo_26 : decode cX3_lowerTo 26 = .ok (.getfield 9, 3) := by decide +kernel
theorem dX3_lowerTo_29 : decode cX3_lowerTo 29 = .ok (.iload 4, 2) := by decide +kernel
theorem dX3_lowerTo_31 : decode cX3_lowerTo 31 = .ok (.iload_n 3, 1) := by decide +kernel
theorem dX3_lowerTo_32 : decode cX3_lowerTo 32 = .ok (.invokestatic 35, 3) := by decide +kernel
theorem dX3_lowerTo_35 : decode cX3_lowerTo 35 = .ok (.aload_n 0, 1) := by decide +kernel
theorem dX3_lowerTo_36 : decode cX3_lowerTo 36 = .ok (.getfield 15, 3) := by decide +kernel
theorem dX3_lowerTo_39 : decode cX3_lowerTo 39 = .ok (.iload 4, 2) := by decide +kernel
theorem dX3_lowerTo_41 : decode cX3_lowerTo 41 = .ok (.aload_n 0, 1) := by decide +kernel
theorem dX3_lowerTo_42 : decode cX3_lowerTo 42 = .ok (.getfield 15, 3) := by decide +kernel
theorem dX3_lowerTo_45 : decode cX3_lowerTo 45 = .ok (.iload 4, 2) := by decide +kernel
theorem dX3_lowerTo_47 : decode cX3_lowerTo 47 = .ok (.invokestatic 31, 3) := by decide +kernel
theorem dX3_lowerTo_50 : decode cX3_lowerTo 50 = .ok (.iconst 1, 1) := by decide +kernel
theorem dX3_lowerTo_51 : decode cX3_lowerTo 51 = .ok (.iconst 2, 1) := by decide +kernel
theorem dX3_lowerTo_52 : decode cX3_lowerTo 52 = .ok (.iload_n 3, 1) := by decide +kernel
theorem dX3_lowerTo_53 : decode cX3_lowerTo 53 = .ok (.imul, 1) := by decide +kernel
theorem dX3_lowerTo_54 : decode cX3_lowerTo 54 = .ok (.ishl, 1) := by decide +kernel
theorem dX3_lowerTo_55 : decode cX3_lowerTo 55 = .ok (.iconst 1, 1) := by decide +kernel
theorem dX3_lowerTo_56 : decode cX3_lowerTo 56 = .ok (.isub, 1) := by decide +kernel
theorem dX3_lowerTo_57 : decode cX3_lowerTo 57 = .ok (.iand, 1) := by decide +kernel
theorem dX3_lowerTo_58 : decode cX3_lowerTo 58 = .ok (.invokestatic 35, 3) := by decide +kernel
theorem dX3_lowerTo_61 : decode cX3_lowerTo 61 = .ok (.return_, 1) := by decide +kernel
set_option maxRecDepth 20000 in
theorem ggX3_blockCount_X3_blocksIn : GoodIn wsX3_blockCount wsX3_blocksIn := goodIn_r _ [6, 1, 7, 8, 9, 5, 10, 11, 12, 13, 14, 15, 16, 17, 18, 19, 20, 21, 22, 23, 24, 25, 26] (by decide +kernel) (by decide +kernel)
set_option maxRecDepth 20000 in
theorem gX3_blockCount_X3_blocksIn : GoodIn wsX3_blockCount (wsV RX3 58 RX3 yX3_blocksIn wsX3_blocksIn) := goodIn_app (goodIn_of _ (by decide +kernel)) ggX3_blockCount_X3_blocksIn
theorem dX3_blockCount_0 : decode cX3_blockCount 0 = .ok (.iconst 0, 1) := by decide +kernel
theorem dX3_blockCount_1 : decode cX3_blockCount 1 = .ok (.istore_n 1, 1) := by decide +kernel
theorem dX3_blockCount_2 : decode cX3_blockCount 2 = .ok (.iconst 0, 1) := by decide +kernel
theorem dX3_blockCount_3 : decode cX3_blockCount 3 = .ok (.istore_n 2, 1) := by decide +kernel
theorem dX3_blockCount_4 : decode cX3_blockCount 4 = .ok (.iload_n 2, 1) := by decide +kernel
theorem dX3_blockCount_5 : decode cX3_blockCount 5 = .ok (.aload_n 0, 1) := by decide +kernel
theorem dX3_blockCount_6 : decode cX3_blockCount 6 = .ok (.getfield 18, 3) := by decide +kernel
theorem dX3_blockCount_9 : decode cX3_blockCount 9 = .ok (.if_icmp .ge 18, 3) := by decide +kernel
theorem dX3_blockCount_12 : decode cX3_blockCount 12 = .ok (.iload_n 1, 1) := by decide +kernel
theorem dX3_blockCount_13 : decode cX3_blockCount 13 = .ok (.aload_n 0, 1) := by decide +kernel
theorem dX3_blockCount_14 : decode cX3_blockCount 14 = .ok (.iconst 0, 1) := by decide +kernel
theorem dX3_blockCount_15 : decode cX3_blockCount 15 = .ok (.iload_n 2, 1) := by decide +kernel
theorem dX3_blockCount_16 : decode cX3_blockCount 16 = .ok (.invokevirtual 58, 3) := by decide +kernel
theorem dX3_blockCount_19 : decode cX3_blockCount 19 = .ok (.iadd, 1) := by decide +kernel
theorem dX3_blockCount_20 : decode cX3_blockCount 20 = .ok (.istore_n 1, 1) := by decide +kernel
theorem dX3_blockCount_21 : decode cX3_blockCount 21 = .ok (.iinc 2 1, 3) := by decide +kernel
theorem dX3_blockCount_24 : decode cX3_blockCount 24 = .ok (.goto (-20), 3) := by decide +kernel
theorem dX3_blockCount_27 : decode cX3_blockCount 27 = .ok (.iload_n 1, 1) := by decide +kernel
theorem dX3_blockCount_28 : decode cX3_blockCount 28 = .ok (.ireturn, 1) := by decide +kernel
set_option maxRecDepth 20000 in
theorem ggX3_greatestHeight_X3_greatestIn : GoodIn wsX3_greatestHeight wsX3_greatestIn := goodIn_r _ [10, 1, 2, 3, 4, 5, 11, 12, 13, 9, 14, 15, 16, 17, 18, 19, 20, 21, 22, 23, 24, 25, 26, 27, 28, 29, 30] (by decide +kernel) (by decide +kernel)
set_option maxRecDepth 20000 in
theorem gX3_greatestHeight_X3_greatestIn : GoodIn wsX3_greatestHeight (wsV RX3 61 RX3 yX3_greatestIn wsX3_greatestIn) := goodIn_app (goodIn_of _ (by decide +kernel)) ggX3_greatestHeight_X3_greatestIn
theorem dX3_greatestHeight_0 : decode cX3_greatestHeight 0 = .ok (.iconst 0, 1) := by decide +kernel
theorem dX3_greatestHeight_1 : decode cX3_greatestHeight 1 = .ok (.istore_n 1, 1) := by decide +kernel
theorem dX3_greatestHeight_2 : decode cX3_greatestHeight 2 = .ok (.iconst 0, 1) := by decide +kernel
theorem dX3_greatestHeight_3 : decode cX3_greatestHeight 3 = .ok (.istore_n 2, 1) := by decide +kernel
theorem dX3_greatestHeight_4 : decode cX3_greatestHeight 4 = .ok (.iload_n 2, 1) := by decide +kernel
theorem dX3_greatestHeight_5 : decode cX3_greatestHeight 5 = .ok (.aload_n 0, 1) := by decide +kernel
theorem dX3_greatestHeight_6 : decode cX3_greatestHeight 6 = .ok (.getfield 18, 3) := by decide +kernel
theorem dX3_greatestHeight_9 : decode cX3_greatestHeight 9 = .ok (.if_icmp .ge 20, 3) := by decide +kernel
theorem dX3_greatestHeight_12 : decode cX3_greatestHeight 12 = .ok (.iload_n 1, 1) := by decide +kernel
theorem dX3_greatestHeight_13 : decode cX3_greatestHeight 13 = .ok (.aload_n 0, 1) := by decide +kernel
theorem dX3_greatestHeight_14 : decode cX3_greatestHeight 14 = .ok (.iconst 0, 1) := by decide +kernel
theorem dX3_greatestHeight_15 : decode cX3_greatestHeight 15 = .ok (.iload_n 2, 1) := by decide +kernel
theorem dX3_greatestHeight_16 : decode cX3_greatestHeight 16 = .ok (.invokevirtual 61, 3) := by decide +kernel
theorem dX3_greatestHeight_19 : decode cX3_greatestHeight 19 = .ok (.invokestatic 64, 3) := by decide +kernel
theorem dX3_greatestHeight_22 : decode cX3_greatestHeight 22 = .ok (.istore_n 1, 1) := by decide +kernel
theorem dX3_greatestHeight_23 : decode cX3_greatestHeight 23 = .ok (.iinc 2 1, 3) := by decide +kernel
theorem dX3_greatestHeight_26 : decode cX3_greatestHeight 26 = .ok (.goto (-22), 3) := by decide +kernel
theorem dX3_greatestHeight_29 : decode cX3_greatestHeight 29 = .ok (.iload_n 1, 1) := by decide +kernel
theorem dX3_greatestHeight_30 : decode cX3_greatestHeight 30 = .ok (.ireturn, 1) := by decide +kernel
set_option maxRecDepth 20000 in
theorem ggX3_inShadow_X4_valueAt : GoodIn wsX3_inShadow wsX4_valueAt := goodIn_r _ [4] (by decide +kernel) (by decide +kernel)
set_option maxRecDepth 20000 in
theorem gX3_inShadow_X4_valueAt_n31 : GoodIn wsX3_inShadow (wsX4_valueAt) := ggX3_inShadow_X4_valueAt
set_option maxRecDepth 20000 in
theorem ggX3_inShadow_X3_heightAt : GoodIn wsX3_inShadow wsX3_heightAt := goodIn_r _ [9, 10, 11, 12, 13, 8, 14, 1, 2, 3, 4, 19, 20, 21, 22] (by decide +kernel) (by decide +kernel)
set_option maxRecDepth 20000 in
theorem gX3_inShadow_X3_heightAt : GoodIn wsX3_inShadow (wsV RX3 47 RX3 yX3_heightAt wsX3_heightAt) := goodIn_app (goodIn_of _ (by decide +kernel)) ggX3_inShadow_X3_heightAt
set_option maxRecDepth 20000 in
theorem ggX3_inShadow_X3_hasSquare : GoodIn wsX3_inShadow wsX3_hasSquare := goodIn_r _ [18, 11, 12, 13, 8, 14, 1, 19, 20, 21, 22] (by decide +kernel) (by decide +kernel)
set_option maxRecDepth 20000 in
theorem gX3_inShadow_X3_hasSquare : GoodIn wsX3_inShadow (wsV RX3 78 RX3 yX3_hasSquare wsX3_hasSquare) := goodIn_app (goodIn_of _ (by decide +kernel)) ggX3_inShadow_X3_hasSquare
theorem dX3_inShadow_0 : decode cX3_inShadow 0 = .ok (.getstatic 69, 3) := by decide +kernel
theorem dX3_inShadow_3 : decode cX3_inShadow 3 = .ok (.iload_n 3, 1) := by decide +kernel
theorem dX3_inShadow_4 : decode cX3_inShadow 4 = .ok (.invokestatic 31, 3) := by decide +kernel
theorem dX3_inShadow_7 : decode cX3_inShadow 7 = .ok (.istore 4, 2) := by decide +kernel
theorem dX3_inShadow_9 : decode cX3_inShadow 9 = .ok (.getstatic 72, 3) := by decide +kernel
theorem dX3_inShadow_12 : decode cX3_inShadow 12 = .ok (.iload_n 3, 1) := by decide +kernel
theorem dX3_inShadow_13 : decode cX3_inShadow 13 = .ok (.invokestatic 31, 3) := by decide +kernel
theorem dX3_inShadow_16 : decode cX3_inShadow 16 = .ok (.istore 5, 2) := by decide +kernel
theorem dX3_inShadow_18 : decode cX3_inShadow 18 = .ok (.getstatic 75, 3) := by decide +kernel
theorem dX3_inShadow_21 : decode cX3_inShadow 21 = .ok (.iload_n 3, 1) := by decide +kernel
theorem dX3_inShadow_22 : decode cX3_inShadow 22 = .ok (.invokestatic 31, 3) := by decide +kernel
theorem dX3_inShadow_25 : decode cX3_inShadow 25 = .ok (.istore 6, 2) := by decide +kernel
theorem dX3_inShadow_27 : decode cX3_inShadow 27 = .ok (.aload_n 0, 1) := by decide +kernel
theorem dX3_inShadow_28 : decode cX3_inShadow 28 = .ok (.iload_n 1, 1) := by decide +kernel
theorem dX3_inShadow_29 : decode cX3_inShadow 29 = .ok (.iload_n 2, 1) := by decide +kernel
theorem dX3_inShadow_30 : decode cX3_inShadow 30 = .ok (.invokevirtual 47, 3) := by decide +kernel
theorem dX3_inShadow_33 : decode cX3_inShadow 33 = .ok (.istore 7, 2) := by decide +kernel
theorem dX3_inShadow_35 : decode cX3_inShadow 35 = .ok (.iconst 1, 1) := by decide +kernel
theorem dX3_inShadow_36 : decode cX3_inShadow 36 = .ok (.istore 8, 2) := by decide +kernel
theorem dX3_inShadow_38 : decode cX3_inShadow 38 = .ok (.iload 8, 2) := by decide +kernel
theorem dX3_inShadow_40 : decode cX3_inShadow 40 = .ok (.aload_n 0, 1) := by decide +kernel
theorem dX3_inShadow_41 : decode cX3_inShadow 41 = .ok (.getfield 18, 3) := by decide +kernel
theorem dX3_inShadow_44 : decode cX3_inShadow 44 = .ok (.if_icmp .ge 59, 3) := by decide +kernel
theorem dX3_inShadow_47 : decode cX3_inShadow 47 = .ok (.iload_n 1, 1) := by decide +kernel
theorem dX3_inShadow_48 : decode cX3_inShadow 48 = .ok (.iload 8, 2) := by decide +kernel
theorem dX3_inShadow_50 : decode cX3_inShadow 50 = .ok (.iload 4, 2) := by decide +kernel
theorem dX3_inShadow_52 : decode cX3_inShadow 52 = .ok (.imul, 1) := by decide +kernel
theorem dX3_inShadow_53 : decode cX3_inShadow 53 = .ok (.iadd, 1) := by decide +kernel
theorem dX3_inShadow_54 : decode cX3_inShadow 54 = .ok (.istore 9, 2) := by decide +kernel
theorem dX3_inShadow_56 : decode cX3_inShadow 56 = .ok (.iload_n 2, 1) := by decide +kernel
theorem dX3_inShadow_57 : decode cX3_inShadow 57 = .ok (.iload 8, 2) := by decide +kernel
theorem dX3_inShadow_59 : decode cX3_inShadow 59 = .ok (.iload 5, 2) := by decide +kernel
theorem dX3_inShadow_61 : decode cX3_inShadow 61 = .ok (.imul, 1) := by decide +kernel
theorem dX3_inShadow_62 : decode cX3_inShadow 62 = .ok (.iadd, 1) := by decide +kernel
theorem dX3_inShadow_63 : decode cX3_inShadow 63 = .ok (.istore 10, 2) := by decide +kernel
theorem dX3_inShadow_65 : decode cX3_inShadow 65 = .ok (.aload_n 0, 1) := by decide +kernel
theorem dX3_inShadow_66 : decode cX3_inShadow 66 = .ok (.iload 9, 2) := by decide +kernel
theorem dX3_inShadow_68 : decode cX3_inShadow 68 = .ok (.iload 10, 2) := by decide +kernel
theorem dX3_inShadow_70 : decode cX3_inShadow 70 = .ok (.invokevirtual 78, 3) := by decide +kernel
theorem dX3_inShadow_73 : decode cX3_inShadow 73 = .ok (.ifCond .eq 24, 3) := by decide +kernel
theorem dX3_inShadow_76 : decode cX3_inShadow 76 = .ok (.aload_n 0, 1) := by decide +kernel
theorem dX3_inShadow_77 : decode cX3_inShadow 77 = .ok (.iload 9, 2) := by decide +kernel
theorem dX3_inShadow_79 : decode cX3_inShadow 79 = .ok (.iload 10, 2) := by decide +kernel
theorem dX3_inShadow_81 : decode cX3_inShadow 81 = .ok (.invokevirtual 47, 3) := by decide +kernel
theorem dX3_inShadow_84 : decode cX3_inShadow 84 = .ok (.iload 7, 2) := by decide +kernel
theorem dX3_inShadow_86 : decode cX3_inShadow 86 = .ok (.isub, 1) := by decide +kernel
theorem dX3_inShadow_87 : decode cX3_inShadow 87 = .ok (.iload 8, 2) := by decide +kernel
theorem dX3_inShadow_89 : decode cX3_inShadow 89 = .ok (.iload 6, 2) := by decide +kernel
theorem dX3_inShadow_91 : decode cX3_inShadow 91 = .ok (.imul, 1) := by decide +kernel
theorem dX3_inShadow_92 : decode cX3_inShadow 92 = .ok (.if_icmp .lt 5, 3) := by decide +kernel
theorem dX3_inShadow_95 : decode cX3_inShadow 95 = .ok (.iconst 1, 1) := by decide +kernel
theorem dX3_inShadow_96 : decode cX3_inShadow 96 = .ok (.ireturn, 1) := by decide +kernel
theorem dX3_inShadow_97 : decode cX3_inShadow 97 = .ok (.iinc 8 1, 3) := by decide +kernel
theorem dX3_inShadow_100 : decode cX3_inShadow 100 = .ok (.goto (-62), 3) := by decide +kernel
theorem dX3_inShadow_103 : decode cX3_inShadow 103 = .ok (.iconst 0, 1) := by decide +kernel
theorem dX3_inShadow_104 : decode cX3_inShadow 104 = .ok (.ireturn, 1) := by decide +kernel
set_option maxRecDepth 20000 in
theorem ggX3_shadowCount_X3_inShadow : GoodIn wsX3_shadowCount wsX3_inShadow := goodIn_r _ [6, 1, 7, 8, 9, 10, 11, 12, 5, 13, 14, 15, 16, 17, 18, 19, 20, 21, 22, 23, 24, 25, 26] (by decide +kernel) (by decide +kernel)
set_option maxRecDepth 20000 in
theorem gX3_shadowCount_X3_inShadow : GoodIn wsX3_shadowCount (wsV RX3 82 RX3 yX3_inShadow wsX3_inShadow) := goodIn_app (goodIn_of _ (by decide +kernel)) ggX3_shadowCount_X3_inShadow
theorem dX3_shadowCount_0 : decode cX3_shadowCount 0 = .ok (.iconst 0, 1) := by decide +kernel
theorem dX3_shadowCount_1 : decode cX3_shadowCount 1 = .ok (.istore_n 2, 1) := by decide +kernel
theorem dX3_shadowCount_2 : decode cX3_shadowCount 2 = .ok (.iconst 0, 1) := by decide +kernel
theorem dX3_shadowCount_3 : decode cX3_shadowCount 3 = .ok (.istore_n 3, 1) := by decide +kernel
theorem dX3_shadowCount_4 : decode cX3_shadowCount 4 = .ok (.iload_n 3, 1) := by decide +kernel
theorem dX3_shadowCount_5 : decode cX3_shadowCount 5 = .ok (.aload_n 0, 1) := by decide +kernel
theorem dX3_shadowCount_6 : decode cX3_shadowCount 6 = .ok (.getfield 18, 3) := by decide +kernel
theorem dX3_shadowCount_9 : decode cX3_shadowCount 9 = .ok (.if_icmp .ge 41, 3) := by decide +kernel
theorem dX3_shadowCount_12 : decode cX3_shadowCount 12 = .ok (.iconst 0, 1) := by decide +kernel
theorem dX3_shadowCount_13 : decode cX3_shadowCount 13 = .ok (.istore 4, 2) := by decide +kernel
theorem dX3_shadowCount_15 : decode cX3_shadowCount 15 = .ok (.iload 4, 2) := by decide +kernel
theorem dX3_shadowCount_17 : decode cX3_shadowCount 17 = .ok (.aload_n 0, 1) := by decide +kernel
theorem dX3_shadowCount_18 : decode cX3_shadowCount 18 = .ok (.getfield 18, 3) := by decide +kernel
theorem dX3_shadowCount_21 : decode cX3_shadowCount 21 = .ok (.if_icmp .ge 23, 3) := by decide +kernel
theorem dX3_shadowCount_24 : decode cX3_shadowCount 24 = .ok (.aload_n 0, 1) := by decide +kernel
theorem dX3_shadowCount_25 : decode cX3_shadowCount 25 = .ok (.iload 4, 2) := by decide +kernel
theorem dX3_shadowCount_27 : decode cX3_shadowCount 27 = .ok (.iload_n 3, 1) := by decide +kernel
theorem dX3_shadowCount_28 : decode cX3_shadowCount 28 = .ok (.iload_n 1, 1) := by decide +kernel
theorem dX3_shadowCount_29 : decode cX3_shadowCount 29 = .ok (.invokevirtual 82, 3) := by decide +kernel
theorem dX3_shadowCount_32 : decode cX3_shadowCount 32 = .ok (.ifCond .eq 6, 3) := by decide +kernel
theorem dX3_shadowCount_35 : decode cX3_shadowCount 35 = .ok (.iinc 2 1, 3) := by decide +kernel
theorem dX3_shadowCount_38 : decode cX3_shadowCount 38 = .ok (.iinc 4 1, 3) := by decide +kernel
theorem dX3_shadowCount_41 : decode cX3_shadowCount 41 = .ok (.goto (-26), 3) := by decide +kernel
theorem dX3_shadowCount_44 : decode cX3_shadowCount 44 = .ok (.iinc 3 1, 3) := by decide +kernel
theorem dX3_shadowCount_47 : decode cX3_shadowCount 47 = .ok (.goto (-43), 3) := by decide +kernel
theorem dX3_shadowCount_50 : decode cX3_shadowCount 50 = .ok (.iload_n 2, 1) := by decide +kernel
theorem dX3_shadowCount_51 : decode cX3_shadowCount 51 = .ok (.ireturn, 1) := by decide +kernel
set_option maxRecDepth 20000 in
theorem ggX3_heightAlong_X3_heightAt : GoodIn wsX3_heightAlong wsX3_heightAt := goodIn_r _ [5, 6, 7, 8, 9, 4, 10, 11, 12, 13, 14, 15, 16, 17, 18] (by decide +kernel) (by decide +kernel)
set_option maxRecDepth 20000 in
theorem gX3_heightAlong_X3_heightAt : GoodIn wsX3_heightAlong (wsV RX3 47 RX3 yX3_heightAt wsX3_heightAt) := goodIn_app (goodIn_of _ (by decide +kernel)) ggX3_heightAlong_X3_heightAt
theorem dX3_heightAlong_0 : decode cX3_heightAlong 0 = .ok (.iload_n 1, 1) := by decide +kernel
theorem dX3_heightAlong_1 : decode cX3_heightAlong 1 = .ok (.ifCond .ne 12, 3) := by decide +kernel
theorem dX3_heightAlong_4 : decode cX3_heightAlong 4 = .ok (.aload_n 0, 1) := by decide +kernel
theorem dX3_heightAlong_5 : decode cX3_heightAlong 5 = .ok (.iload_n 3, 1) := by decide +kernel
theorem dX3_heightAlong_6 : decode cX3_heightAlong 6 = .ok (.iload_n 2, 1) := by decide +kernel
theorem dX3_heightAlong_7 : decode cX3_heightAlong 7 = .ok (.invokevirtual 47, 3) := by decide +kernel
theorem dX3_heightAlong_10 : decode cX3_heightAlong 10 = .ok (.goto 9, 3) := by decide +kernel
theorem dX3_heightAlong_13 : decode cX3_heightAlong 13 = .ok (.aload_n 0, 1) := by decide +kernel
theorem dX3_heightAlong_14 : decode cX3_heightAlong 14 = .ok (.iload_n 2, 1) := by decide +kernel
theorem dX3_heightAlong_15 : decode cX3_heightAlong 15 = .ok (.iload_n 3, 1) := by decide +kernel
theorem dX3_heightAlong_16 : decode cX3_heightAlong 16 = .ok (.invokevirtual 47, 3) := by decide +kernel
theorem dX3_heightAlong_19 : decode cX3_heightAlong 19 = .ok (.ireturn, 1) := by decide +kernel
set_option maxRecDepth 20000 in
theorem ggX3_greatestIn_X3_heightAlong : GoodIn wsX3_greatestIn wsX3_heightAlong := goodIn_r _ [10, 11, 12, 13, 9, 14, 15, 16, 17, 18, 19, 1, 20, 21, 22, 23, 24, 25, 26] (by decide +kernel) (by decide +kernel)
set_option maxRecDepth 20000 in
theorem gX3_greatestIn_X3_heightAlong : GoodIn wsX3_greatestIn (wsV RX3 86 RX3 yX3_heightAlong wsX3_heightAlong) := goodIn_app (goodIn_of _ (by decide +kernel)) ggX3_greatestIn_X3_heightAlong
theorem dX3_greatestIn_0 : decode cX3_greatestIn 0 = .ok (.iconst 0, 1) := by decide +kernel
theorem dX3_greatestIn_1 : decode cX3_greatestIn 1 = .ok (.istore_n 3, 1) := by decide +kernel
theorem dX3_greatestIn_2 : decode cX3_greatestIn 2 = .ok (.iconst 0, 1) := by decide +kernel
theorem dX3_greatestIn_3 : decode cX3_greatestIn 3 = .ok (.istore 4, 2) := by decide +kernel
theorem dX3_greatestIn_5 : decode cX3_greatestIn 5 = .ok (.iload 4, 2) := by decide +kernel
theorem dX3_greatestIn_7 : decode cX3_greatestIn 7 = .ok (.aload_n 0, 1) := by decide +kernel
theorem dX3_greatestIn_8 : decode cX3_greatestIn 8 = .ok (.getfield 18, 3) := by decide +kernel
theorem dX3_greatestIn_11 : decode cX3_greatestIn 11 = .ok (.if_icmp .ge 22, 3) := by decide +kernel
theorem dX3_greatestIn_14 : decode cX3_greatestIn 14 = .ok (.iload_n 3, 1) := by decide +kernel
theorem dX3_greatestIn_15 : decode cX3_greatestIn 15 = .ok (.aload_n 0, 1) := by decide +kernel
theorem dX3_greatestIn_16 : decode cX3_greatestIn 16 = .ok (.iload_n 1, 1) := by decide +kernel
theorem dX3_greatestIn_17 : decode cX3_greatestIn 17 = .ok (.iload_n 2, 1) := by decide +kernel
theorem dX3_greatestIn_18 : decode cX3_greatestIn 18 = .ok (.iload 4, 2) := by decide +kernel
theorem dX3_greatestIn_20 : decode cX3_greatestIn 20 = .ok (.invokevirtual 86, 3) := by decide +kernel
theorem dX3_greatestIn_23 : decode cX3_greatestIn 23 = .ok (.invokestatic 64, 3) := by decide +kernel
theorem dX3_greatestIn_26 : decode cX3_greatestIn 26 = .ok (.istore_n 3, 1) := by decide +kernel
theorem dX3_greatestIn_27 : decode cX3_greatestIn 27 = .ok (.iinc 4 1, 3) := by decide +kernel
theorem dX3_greatestIn_30 : decode cX3_greatestIn 30 = .ok (.goto (-25), 3) := by decide +kernel
theorem dX3_greatestIn_33 : decode cX3_greatestIn 33 = .ok (.iload_n 3, 1) := by decide +kernel
theorem dX3_greatestIn_34 : decode cX3_greatestIn 34 = .ok (.ireturn, 1) := by decide +kernel
set_option maxRecDepth 20000 in
theorem ggX3_stacksWith_X3_heightAlong : GoodIn wsX3_stacksWith wsX3_heightAlong := goodIn_r _ [6, 7, 8, 9, 5, 10, 11, 12, 13, 14, 15, 1, 16, 17, 18, 19, 20, 21, 22] (by decide +kernel) (by decide +kernel)
set_option maxRecDepth 20000 in
theorem gX3_stacksWith_X3_heightAlong : GoodIn wsX3_stacksWith (wsV RX3 86 RX3 yX3_heightAlong wsX3_heightAlong) := goodIn_app (goodIn_of _ (by decide +kernel)) ggX3_stacksWith_X3_heightAlong
theorem dX3_stacksWith_0 : decode cX3_stacksWith 0 = .ok (.iconst 0, 1) := by decide +kernel
theorem dX3_stacksWith_1 : decode cX3_stacksWith 1 = .ok (.istore 4, 2) := by decide +kernel
theorem dX3_stacksWith_3 : decode cX3_stacksWith 3 = .ok (.iconst 0, 1) := by decide +kernel
theorem dX3_stacksWith_4 : decode cX3_stacksWith 4 = .ok (.istore 5, 2) := by decide +kernel
theorem dX3_stacksWith_6 : decode cX3_stacksWith 6 = .ok (.iload 5, 2) := by decide +kernel
theorem dX3_stacksWith_8 : decode cX3_stacksWith 8 = .ok (.aload_n 0, 1) := by decide +kernel
theorem dX3_stacksWith_9 : decode cX3_stacksWith 9 = .ok (.getfield 18, 3) := by decide +kernel
theorem dX3_stacksWith_12 : decode cX3_stacksWith 12 = .ok (.if_icmp .ge 24, 3) := by decide +kernel
theorem dX3_stacksWith_15 : decode cX3_stacksWith 15 = .ok (.aload_n 0, 1) := by decide +kernel
theorem dX3_stacksWith_16 : decode cX3_stacksWith 16 = .ok (.iload_n 1, 1) := by decide +kernel
theorem dX3_stacksWith_17 : decode cX3_stacksWith 17 = .ok (.iload_n 2, 1) := by decide +kernel
theorem dX3_stacksWith_18 : decode cX3_stacksWith 18 = .ok (.iload 5, 2) := by decide +kernel
theorem dX3_stacksWith_20 : decode cX3_stacksWith 20 = .ok (.invokevirtual 86, 3) := by decide +kernel
theorem dX3_stacksWith_23 : decode cX3_stacksWith 23 = .ok (.iload_n 3, 1) := by decide +kernel
theorem dX3_stacksWith_24 : decode cX3_stacksWith 24 = .ok (.if_icmp .ne 6, 3) := by decide +kernel
theorem dX3_stacksWith_27 : decode cX3_stacksWith 27 = .ok (.iinc 4 1, 3) := by decide +kernel
theorem dX3_stacksWith_30 : decode cX3_stacksWith 30 = .ok (.iinc 5 1, 3) := by decide +kernel
theorem dX3_stacksWith_33 : decode cX3_stacksWith 33 = .ok (.goto (-27), 3) := by decide +kernel
theorem dX3_stacksWith_36 : decode cX3_stacksWith 36 = .ok (.iload 4, 2) := by decide +kernel
theorem dX3_stacksWith_38 : decode cX3_stacksWith 38 = .ok (.ireturn, 1) := by decide +kernel
set_option maxRecDepth 20000 in
theorem ggX3_blocksIn_X3_heightAlong : GoodIn wsX3_blocksIn wsX3_heightAlong := goodIn_r _ [6, 7, 8, 9, 5, 10, 11, 12, 13, 14, 15, 1, 16, 17, 18, 19, 20, 21, 22] (by decide +kernel) (by decide +kernel)
set_option maxRecDepth 20000 in
theorem gX3_blocksIn_X3_heightAlong : GoodIn wsX3_blocksIn (wsV RX3 86 RX3 yX3_heightAlong wsX3_heightAlong) := goodIn_app (goodIn_of _ (by decide +kernel)) ggX3_blocksIn_X3_heightAlong
theorem dX3_blocksIn_0 : decode cX3_blocksIn 0 = .ok (.iconst 0, 1) := by decide +kernel
theorem dX3_blocksIn_1 : decode cX3_blocksIn 1 = .ok (.istore_n 3, 1) := by decide +kernel
theorem dX3_blocksIn_2 : decode cX3_blocksIn 2 = .ok (.iconst 0, 1) := by decide +kernel
theorem dX3_blocksIn_3 : decode cX3_blocksIn 3 = .ok (.istore 4, 2) := by decide +kernel
theorem dX3_blocksIn_5 : decode cX3_blocksIn 5 = .ok (.iload 4, 2) := by decide +kernel
theorem dX3_blocksIn_7 : decode cX3_blocksIn 7 = .ok (.aload_n 0, 1) := by decide +kernel
theorem dX3_blocksIn_8 : decode cX3_blocksIn 8 = .ok (.getfield 18, 3) := by decide +kernel
theorem dX3_blocksIn_11 : decode cX3_blocksIn 11 = .ok (.if_icmp .ge 20, 3) := by decide +kernel
theorem dX3_blocksIn_14 : decode cX3_blocksIn 14 = .ok (.iload_n 3, 1) := by decide +kernel
theorem dX3_blocksIn_15 : decode cX3_blocksIn 15 = .ok (.aload_n 0, 1) := by decide +kernel
theorem dX3_blocksIn_16 : decode cX3_blocksIn 16 = .ok (.iload_n 1, 1) := by decide +kernel
theorem dX3_blocksIn_17 : decode cX3_blocksIn 17 = .ok (.iload_n 2, 1) := by decide +kernel
theorem dX3_blocksIn_18 : decode cX3_blocksIn 18 = .ok (.iload 4, 2) := by decide +kernel
theorem dX3_blocksIn_20 : decode cX3_blocksIn 20 = .ok (.invokevirtual 86, 3) := by decide +kernel
theorem dX3_blocksIn_23 : decode cX3_blocksIn 23 = .ok (.iadd, 1) := by decide +kernel
theorem dX3_blocksIn_24 : decode cX3_blocksIn 24 = .ok (.istore_n 3, 1) := by decide +kernel
theorem dX3_blocksIn_25 : decode cX3_blocksIn 25 = .ok (.iinc 4 1, 3) := by decide +kernel
theorem dX3_blocksIn_28 : decode cX3_blocksIn 28 = .ok (.goto (-23), 3) := by decide +kernel
theorem dX3_blocksIn_31 : decode cX3_blocksIn 31 = .ok (.iload_n 3, 1) := by decide +kernel
theorem dX3_blocksIn_32 : decode cX3_blocksIn 32 = .ok (.ireturn, 1) := by decide +kernel
set_option maxRecDepth 20000 in
theorem ggX3_fewestAlike_X3_linesWith : GoodIn wsX3_fewestAlike wsX3_linesWith := goodIn_r _ [9, 10, 11, 12, 13, 8, 14, 1, 2, 3, 4, 15, 16, 17, 18, 19, 20, 21, 22, 23, 24, 25, 26, 27, 28, 29, 30, 31, 32, 33, 34] (by decide +kernel) (by decide +kernel)
set_option maxRecDepth 20000 in
theorem gX3_fewestAlike_X3_linesWith : GoodIn wsX3_fewestAlike (wsV RX3 89 RX3 yX3_linesWith wsX3_linesWith) := goodIn_app (goodIn_of _ (by decide +kernel)) ggX3_fewestAlike_X3_linesWith
theorem dX3_fewestAlike_0 : decode cX3_fewestAlike 0 = .ok (.iconst 0, 1) := by decide +kernel
theorem dX3_fewestAlike_1 : decode cX3_fewestAlike 1 = .ok (.istore_n 1, 1) := by decide +kernel
theorem dX3_fewestAlike_2 : decode cX3_fewestAlike 2 = .ok (.iconst 1, 1) := by decide +kernel
theorem dX3_fewestAlike_3 : decode cX3_fewestAlike 3 = .ok (.istore_n 2, 1) := by decide +kernel
theorem dX3_fewestAlike_4 : decode cX3_fewestAlike 4 = .ok (.iload_n 2, 1) := by decide +kernel
theorem dX3_fewestAlike_5 : decode cX3_fewestAlike 5 = .ok (.bipush 8, 2) := by decide +kernel
theorem dX3_fewestAlike_7 : decode cX3_fewestAlike 7 = .ok (.if_icmp .gt 29, 3) := by decide +kernel
theorem dX3_fewestAlike_10 : decode cX3_fewestAlike 10 = .ok (.iload_n 1, 1) := by decide +kernel
theorem dX3_fewestAlike_11 : decode cX3_fewestAlike 11 = .ok (.iload_n 2, 1) := by decide +kernel
theorem dX3_fewestAlike_12 : decode cX3_fewestAlike 12 = .ok (.aload_n 0, 1) := by decide +kernel
theorem dX3_fewestAlike_13 : decode cX3_fewestAlike 13 = .ok (.iconst 0, 1) := by decide +kernel
theorem dX3_fewestAlike_14 : decode cX3_fewestAlike 14 = .ok (.iload_n 2, 1) := by decide +kernel
theorem dX3_fewestAlike_15 : decode cX3_fewestAlike 15 = .ok (.invokevirtual 89, 3) := by decide +kernel
theorem dX3_fewestAlike_18 : decode cX3_fewestAlike 18 = .ok (.aload_n 0, 1) := by decide +kernel
theorem dX3_fewestAlike_19 : decode cX3_fewestAlike 19 = .ok (.iconst 1, 1) := by decide +kernel
theorem dX3_fewestAlike_20 : decode cX3_fewestAlike 20 = .ok (.iload_n 2, 1) := by decide +kernel
theorem dX3_fewestAlike_21 : decode cX3_fewestAlike 21 = .ok (.invokevirtual 89, 3) := by decide +kernel
theorem dX3_fewestAlike_24 : decode cX3_fewestAlike 24 = .ok (.invokestatic 64, 3) := by decide +kernel
theorem dX3_fewestAlike_27 : decode cX3_fewestAlike 27 = .ok (.imul, 1) := by decide +kernel
theorem dX3_fewestAlike_28 : decode cX3_fewestAlike 28 = .ok (.iadd, 1) := by decide +kernel
theorem dX3_fewestAlike_29 : decode cX3_fewestAlike 29 = .ok (.istore_n 1, 1) := by decide +kernel
theorem dX3_fewestAlike_30 : decode cX3_fewestAlike 30 = .ok (.iinc 2 1, 3) := by decide +kernel
theorem dX3_fewestAlike_33 : decode cX3_fewestAlike 33 = .ok (.goto (-29), 3) := by decide +kernel
theorem dX3_fewestAlike_36 : decode cX3_fewestAlike 36 = .ok (.iload_n 1, 1) := by decide +kernel
theorem dX3_fewestAlike_37 : decode cX3_fewestAlike 37 = .ok (.ireturn, 1) := by decide +kernel
set_option maxRecDepth 20000 in
theorem ggX3_linesWith_X3_greatestIn : GoodIn wsX3_linesWith wsX3_greatestIn := goodIn_r _ [6, 1, 7, 8, 9, 10, 11, 12, 13, 5, 14, 15, 16, 17, 18, 19, 20, 21, 22, 23, 24, 25, 26, 27, 28, 29, 30] (by decide +kernel) (by decide +kernel)
set_option maxRecDepth 20000 in
theorem gX3_linesWith_X3_greatestIn : GoodIn wsX3_linesWith (wsV RX3 61 RX3 yX3_greatestIn wsX3_greatestIn) := goodIn_app (goodIn_of _ (by decide +kernel)) ggX3_linesWith_X3_greatestIn
theorem dX3_linesWith_0 : decode cX3_linesWith 0 = .ok (.iconst 0, 1) := by decide +kernel
theorem dX3_linesWith_1 : decode cX3_linesWith 1 = .ok (.istore_n 3, 1) := by decide +kernel
theorem dX3_linesWith_2 : decode cX3_linesWith 2 = .ok (.iconst 0, 1) := by decide +kernel
theorem dX3_linesWith_3 : decode cX3_linesWith 3 = .ok (.istore 4, 2) := by decide +kernel
theorem dX3_linesWith_5 : decode cX3_linesWith 5 = .ok (.iload 4, 2) := by decide +kernel
theorem dX3_linesWith_7 : decode cX3_linesWith 7 = .ok (.aload_n 0, 1) := by decide +kernel
theorem dX3_linesWith_8 : decode cX3_linesWith 8 = .ok (.getfield 18, 3) := by decide +kernel
theorem dX3_linesWith_11 : decode cX3_linesWith 11 = .ok (.if_icmp .ge 23, 3) := by decide +kernel
theorem dX3_linesWith_14 : decode cX3_linesWith 14 = .ok (.aload_n 0, 1) := by decide +kernel
theorem dX3_linesWith_15 : decode cX3_linesWith 15 = .ok (.iload_n 1, 1) := by decide +kernel
theorem dX3_linesWith_16 : decode cX3_linesWith 16 = .ok (.iload 4, 2) := by decide +kernel
theorem dX3_linesWith_18 : decode cX3_linesWith 18 = .ok (.invokevirtual 61, 3) := by decide +kernel
theorem dX3_linesWith_21 : decode cX3_linesWith 21 = .ok (.iload_n 2, 1) := by decide +kernel
theorem dX3_linesWith_22 : decode cX3_linesWith 22 = .ok (.if_icmp .ne 6, 3) := by decide +kernel
theorem dX3_linesWith_25 : decode cX3_linesWith 25 = .ok (.iinc 3 1, 3) := by decide +kernel
theorem dX3_linesWith_28 : decode cX3_linesWith 28 = .ok (.iinc 4 1, 3) := by decide +kernel
theorem dX3_linesWith_31 : decode cX3_linesWith 31 = .ok (.goto (-26), 3) := by decide +kernel
theorem dX3_linesWith_34 : decode cX3_linesWith 34 = .ok (.iload_n 3, 1) := by decide +kernel
theorem dX3_linesWith_35 : decode cX3_linesWith 35 = .ok (.ireturn, 1) := by decide +kernel
set_option maxRecDepth 20000 in
theorem ggX3_mostAlike_X3_greatestIn : GoodIn wsX3_mostAlike wsX3_greatestIn := goodIn_r _ [10, 1, 11, 12, 4, 13, 14, 15, 16, 9, 17, 18, 19, 20, 21, 22, 23, 24, 25, 26, 27, 28, 29, 30, 31, 32, 33] (by decide +kernel) (by decide +kernel)
set_option maxRecDepth 20000 in
theorem gX3_mostAlike_X3_greatestIn : GoodIn wsX3_mostAlike (wsV RX3 61 RX3 yX3_greatestIn wsX3_greatestIn) := goodIn_app (goodIn_of _ (by decide +kernel)) ggX3_mostAlike_X3_greatestIn
theorem dX3_mostAlike_0 : decode cX3_mostAlike 0 = .ok (.iconst 0, 1) := by decide +kernel
theorem dX3_mostAlike_1 : decode cX3_mostAlike 1 = .ok (.istore_n 1, 1) := by decide +kernel
theorem dX3_mostAlike_2 : decode cX3_mostAlike 2 = .ok (.iconst 0, 1) := by decide +kernel
theorem dX3_mostAlike_3 : decode cX3_mostAlike 3 = .ok (.istore_n 2, 1) := by decide +kernel
theorem dX3_mostAlike_4 : decode cX3_mostAlike 4 = .ok (.iload_n 2, 1) := by decide +kernel
theorem dX3_mostAlike_5 : decode cX3_mostAlike 5 = .ok (.aload_n 0, 1) := by decide +kernel
theorem dX3_mostAlike_6 : decode cX3_mostAlike 6 = .ok (.getfield 18, 3) := by decide +kernel
theorem dX3_mostAlike_9 : decode cX3_mostAlike 9 = .ok (.if_icmp .ge 48, 3) := by decide +kernel
theorem dX3_mostAlike_12 : decode cX3_mostAlike 12 = .ok (.aload_n 0, 1) := by decide +kernel
theorem dX3_mostAlike_13 : decode cX3_mostAlike 13 = .ok (.iconst 0, 1) := by decide +kernel
theorem dX3_mostAlike_14 : decode cX3_mostAlike 14 = .ok (.iload_n 2, 1) := by decide +kernel
theorem dX3_mostAlike_15 : decode cX3_mostAlike 15 = .ok (.invokevirtual 61, 3) := by decide +kernel
theorem dX3_mostAlike_18 : decode cX3_mostAlike 18 = .ok (.istore_n 3, 1) := by decide +kernel
theorem dX3_mostAlike_19 : decode cX3_mostAlike 19 = .ok (.iconst 0, 1) := by decide +kernel
theorem dX3_mostAlike_20 : decode cX3_mostAlike 20 = .ok (.istore 4, 2) := by decide +kernel
theorem dX3_mostAlike_22 : decode cX3_mostAlike 22 = .ok (.iload 4, 2) := by decide +kernel
theorem dX3_mostAlike_24 : decode cX3_mostAlike 24 = .ok (.aload_n 0, 1) := by decide +kernel
theorem dX3_mostAlike_25 : decode cX3_mostAlike 25 = .ok (.getfield 18, 3) := by decide +kernel
theorem dX3_mostAlike_28 : decode cX3_mostAlike 28 = .ok (.if_icmp .ge 23, 3) := by decide +kernel
theorem dX3_mostAlike_31 : decode cX3_mostAlike 31 = .ok (.iload_n 1, 1) := by decide +kernel
theorem dX3_mostAlike_32 : decode cX3_mostAlike 32 = .ok (.iload_n 3, 1) := by decide +kernel
theorem dX3_mostAlike_33 : decode cX3_mostAlike 33 = .ok (.aload_n 0, 1) := by decide +kernel
theorem dX3_mostAlike_34 : decode cX3_mostAlike 34 = .ok (.iconst 1, 1) := by decide +kernel
theorem dX3_mostAlike_35 : decode cX3_mostAlike 35 = .ok (.iload 4, 2) := by decide +kernel
theorem dX3_mostAlike_37 : decode cX3_mostAlike 37 = .ok (.invokevirtual 61, 3) := by decide +kernel
theorem dX3_mostAlike_40 : decode cX3_mostAlike 40 = .ok (.invokestatic 92, 3) := by decide +kernel
theorem dX3_mostAlike_43 : decode cX3_mostAlike 43 = .ok (.iadd, 1) := by decide +kernel
theorem dX3_mostAlike_44 : decode cX3_mostAlike 44 = .ok (.istore_n 1, 1) := by decide +kernel
theorem dX3_mostAlike_45 : decode cX3_mostAlike 45 = .ok (.iinc 4 1, 3) := by decide +kernel
theorem dX3_mostAlike_48 : decode cX3_mostAlike 48 = .ok (.goto (-26), 3) := by decide +kernel
theorem dX3_mostAlike_51 : decode cX3_mostAlike 51 = .ok (.iinc 2 1, 3) := by decide +kernel
theorem dX3_mostAlike_54 : decode cX3_mostAlike 54 = .ok (.goto (-50), 3) := by decide +kernel
theorem dX3_mostAlike_57 : decode cX3_mostAlike 57 = .ok (.iload_n 1, 1) := by decide +kernel
theorem dX3_mostAlike_58 : decode cX3_mostAlike 58 = .ok (.ireturn, 1) := by decide +kernel
set_option maxRecDepth 20000 in
theorem ggX4_init_X3_init : GoodIn wsX4_init wsX3_init := goodIn_r _ [26, 27, 2, 3, 28, 29, 30, 31, 32, 58, 59, 60, 61] (by decide +kernel) (by decide +kernel)
set_option maxRecDepth 20000 in
theorem gX4_init_X3_init : GoodIn wsX4_init (wsX3_init) := ggX4_init_X3_init
set_option maxRecDepth 20000 in
theorem ggX4_init_X2_init : GoodIn wsX4_init wsX2_init := goodIn_r _ [35, 36, 2, 3, 28, 37, 38, 39, 40, 41, 42, 70, 71, 72, 73, 74, 75] (by decide +kernel) (by decide +kernel)
set_option maxRecDepth 20000 in
theorem gX4_init_X2_init : GoodIn wsX4_init (wsX2_init) := ggX4_init_X2_init
set_option maxRecDepth 20000 in
theorem ggX4_init_X1_init : GoodIn wsX4_init wsX1_init := goodIn_r _ [45, 46, 2, 3, 47, 48, 5, 6, 49, 50, 51, 25, 26, 27, 28, 29, 30, 31, 32, 76, 77, 78, 58, 59, 60, 61] (by decide +kernel) (by decide +kernel)
set_option maxRecDepth 20000 in
theorem gX4_init_X1_init : GoodIn wsX4_init (wsX1_init) := ggX4_init_X1_init
set_option maxRecDepth 20000 in
theorem ggX4_init_X0_init : GoodIn wsX4_init wsX0_init := goodIn_r _ [54, 55, 2, 3, 28, 56, 57, 79, 80] (by decide +kernel) (by decide +kernel)
set_option maxRecDepth 20000 in
theorem gX4_init_X0_init : GoodIn wsX4_init (wsX0_init) := ggX4_init_X0_init
