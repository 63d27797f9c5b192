set_option maxRecDepth 20000 in
theorem ggX4_init_X3_init : GoodIn wsX4_init wsX3_init := goodIn_r _ [12, 13, 2, 3, 14, 15, 16, 17, 18, 19, 20, 21, 22, 23, 24, 25, 26, 27, 28, 29, 30, 31, 32, 33, 34, 35, 36, 37, 38, 39, 40, 41, 42, 43, 44, 45, 73, 74, 75, 76, 77, 78, 79, 80, 85, 86, 87, 88, 89] (by decide +kernel) (by decide +kernel)
set_option maxRecDepth 20000 in
theorem gX4_init_X3_init_n11 : GoodIn wsX4_init (wsX3_init) := ggX4_init_X3_init
set_option maxRecDepth 20000 in
theorem ggX4_init_X3_begin : GoodIn wsX4_init wsX3_begin := goodIn_r _ [49, 14, 15, 16, 17, 19, 23, 27, 31, 50, 51, 52, 53, 54, 55, 56, 22, 57, 35, 58, 59, 60, 61, 62, 63, 64, 26, 65, 39, 40, 66, 67, 68, 69, 30, 70, 44, 71, 72, 73, 74, 75, 76, 77, 78, 79, 80, 85, 86, 87, 88, 89] (by decide +kernel) (by decide +kernel)
set_option maxRecDepth 20000 in
theorem gX4_init_X3_begin : GoodIn wsX4_init (wsV RX4 26 RX3 yX3_begin wsX3_begin) := goodIn_app (goodIn_of _ (by decide +kernel)) ggX4_init_X3_begin
theorem dX4_init_0 : decode cX4_init 0 = .ok (.aload_n 0, 1) := by decide +kernel
theorem dX4_init_1 : decode cX4_init 1 = .ok (.invokespecial 3, 3) := by decide +kernel
theorem dX4_init_4 : decode cX4_init 4 = .ok (.aload_n 0, 1) := by decide +kernel
theorem dX4_init_5 : decode cX4_init 5 = .ok (.new 9, 3) := by decide +kernel
theorem dX4_init_8 : decode cX4_init 8 = .ok (.dup, 1) := by decide +kernel
theorem dX4_init_9 : decode cX4_init 9 = .ok (.invokespecial 11, 3) := by decide +kernel
theorem dX4_init_12 : decode cX4_init 12 = .ok (.putfield 12, 3) := by decide +kernel
theorem dX4_init_15 : decode cX4_init 15 = .ok (.aload_n 0, 1) := by decide +kernel
theorem dX4_init_16 : decode cX4_init 16 = .ok (.new 9, 3) := by decide +kernel
theorem dX4_init_19 : decode cX4_init 19 = .ok (.dup, 1) := by decide +kernel
theorem dX4_init_20 : decode cX4_init 20 = .ok (.invokespecial 11, 3) := by decide +kernel
theorem dX4_init_23 : decode cX4_init 23 = .ok (.putfield 16, 3) := by decide +kernel
theorem dX4_init_26 : decode cX4_init 26 = .ok (.aload_n 0, 1) := by decide +kernel
theorem dX4_init_27 : decode cX4_init 27 = .ok (.new 9, 3) := by decide +kernel
theorem dX4_init_30 : decode cX4_init 30 = .ok (.dup, 1) := by decide +kernel
theorem dX4_init_31 : decode cX4_init 31 = .ok (.invokespecial 11, 3) := by decide +kernel
theorem dX4_init_34 : decode cX4_init 34 = .ok (.putfield 19, 3) := by decide +kernel
theorem dX4_init_37 : decode cX4_init 37 = .ok (.aload_n 0, 1) := by decide +kernel
theorem dX4_init_38 : decode cX4_init 38 = .ok (.iconst 0, 1) := by decide +kernel
theorem dX4_init_39 : decode cX4_init 39 = .ok (.putfield 22, 3) := by decide +kernel
theorem dX4_init_42 : decode cX4_init 42 = .ok (.aload_n 0, 1) := by decide +kernel
theorem dX4_init_43 : decode cX4_init 43 = .ok (.getfield 12, 3) := by decide +kernel
theorem dX4_init_46 : decode cX4_init 46 = .ok (.iconst 3, 1) := by decide +kernel
theorem dX4_init_47 : decode cX4_init 47 = .ok (.invokevirtual 26, 3) := by decide +kernel
theorem dX4_init_50 : decode cX4_init 50 = .ok (.return_, 1) := by decide +kernel
set_option maxRecDepth 20000 in
theorem ggX4_nodes_X4_within : GoodIn wsX4_nodes wsX4_within := goodIn_r _ [6] (by decide +kernel) (by decide +kernel)
set_option maxRecDepth 20000 in
theorem gX4_nodes_X4_within : GoodIn wsX4_nodes (va_wsS RX4 30 yX4_within wsX4_within) := goodIn_app (goodIn_of _ (by decide +kernel)) ggX4_nodes_X4_within
set_option maxRecDepth 20000 in
theorem ggX4_nodes_X3_begin : GoodIn wsX4_nodes wsX3_begin := goodIn_r _ [11, 12, 13, 14, 15, 16, 17, 18, 19, 20, 21, 22, 23, 24, 25, 26, 27, 28, 29, 30, 31, 32, 33, 34, 35, 36, 37, 38, 39, 40, 41, 42, 43, 44, 45, 46, 47, 48, 49, 54, 55, 56, 57, 58, 59, 60, 61, 62, 63, 64, 65, 66] (by decide +kernel) (by decide +kernel)
set_option maxRecDepth 20000 in
theorem gX4_nodes_X3_begin : GoodIn wsX4_nodes (wsV RX4 26 RX3 yX3_begin wsX3_begin) := goodIn_app (goodIn_of _ (by decide +kernel)) ggX4_nodes_X3_begin
theorem dX4_nodes_0 : decode cX4_nodes 0 = .ok (.iload_n 1, 1) := by decide +kernel
theorem dX4_nodes_1 : decode cX4_nodes 1 = .ok (.iconst 2, 1) := by decide +kernel
theorem dX4_nodes_2 : decode cX4_nodes 2 = .ok (.iconst 5, 1) := by decide +kernel
theorem dX4_nodes_3 : decode cX4_nodes 3 = .ok (.invokestatic 30, 3) := by decide +kernel
theorem dX4_nodes_6 : decode cX4_nodes 6 = .ok (.ifCond .ne 6, 3) := by decide +kernel
theorem dX4_nodes_9 : decode cX4_nodes 9 = .ok (.bipush (-2), 2) := by decide +kernel
theorem dX4_nodes_11 : decode cX4_nodes 11 = .ok (.ireturn, 1) := by decide +kernel
theorem dX4_nodes_12 : decode cX4_nodes 12 = .ok (.aload_n 0, 1) := by decide +kernel
theorem dX4_nodes_13 : decode cX4_nodes 13 = .ok (.getfield 12, 3) := by decide +kernel
theorem dX4_nodes_16 : decode cX4_nodes 16 = .ok (.getfield 34, 3) := by decide +kernel
theorem dX4_nodes_19 : decode cX4_nodes 19 = .ok (.istore_n 2, 1) := by decide +kernel
theorem dX4_nodes_20 : decode cX4_nodes 20 = .ok (.aload_n 0, 1) := by decide +kernel
theorem dX4_nodes_21 : decode cX4_nodes 21 = .ok (.getfield 12, 3) := by decide +kernel
theorem dX4_nodes_24 : decode cX4_nodes 24 = .ok (.iload_n 1, 1) := by decide +kernel
theorem dX4_nodes_25 : decode cX4_nodes 25 = .ok (.invokevirtual 26, 3) := by decide +kernel
theorem dX4_nodes_28 : decode cX4_nodes 28 = .ok (.iload_n 2, 1) := by decide +kernel
theorem dX4_nodes_29 : decode cX4_nodes 29 = .ok (.ireturn, 1) := by decide +kernel
set_option maxRecDepth 20000 in
theorem ggX4_link_X3_hasLink : GoodIn wsX4_link wsX3_hasLink := goodIn_r _ [9, 10, 11, 12, 13, 29, 30, 31, 32, 33, 34, 35, 36] (by decide +kernel) (by decide +kernel)
set_option maxRecDepth 20000 in
theorem gX4_link_X3_hasLink : GoodIn wsX4_link (wsV RX4 37 RX3 yX3_hasLink wsX3_hasLink) := goodIn_app (goodIn_of _ (by decide +kernel)) ggX4_link_X3_hasLink
set_option maxRecDepth 20000 in
theorem ggX4_link_X4_within : GoodIn wsX4_link wsX4_within := goodIn_r _ [13] (by decide +kernel) (by decide +kernel)
set_option maxRecDepth 20000 in
theorem gX4_link_X4_within : GoodIn wsX4_link (va_wsS RX4 30 yX4_within wsX4_within) := goodIn_app (goodIn_of _ (by decide +kernel)) ggX4_link_X4_within
set_option maxRecDepth 20000 in
theorem ggX4_link_X1_read : GoodIn wsX4_link wsX1_read := goodIn_r _ [19, 20, 37] (by decide +kernel) (by decide +kernel)
set_option maxRecDepth 20000 in
theorem gX4_link_X1_read : GoodIn wsX4_link (wsV RX4 52 RX1 yX1_read wsX1_read) := goodIn_app (goodIn_of _ (by decide +kernel)) ggX4_link_X1_read
set_option maxRecDepth 20000 in
theorem ggX4_link_X1_write : GoodIn wsX4_link wsX1_write := goodIn_r _ [24, 20, 37] (by decide +kernel) (by decide +kernel)
set_option maxRecDepth 20000 in
theorem gX4_link_X1_write : GoodIn wsX4_link (wsV RX4 58 RX1 yX1_write wsX1_write) := goodIn_app (goodIn_of _ (by decide +kernel)) ggX4_link_X1_write
theorem dX4_link_0 : decode cX4_link 0 = .ok (.aload_n 0, 1) := by decide +kernel
theorem dX4_link_1 : decode cX4_link 1 = .ok (.getfield 12, 3) := by decide +kernel
theorem dX4_link_4 : decode cX4_link 4 = .ok (.iload_n 1, 1) := by decide +kernel
theorem dX4_link_5 : decode cX4_link 5 = .ok (.invokevirtual 37, 3) := by decide +kernel
theorem dX4_link_8 : decode cX4_link 8 = .ok (.ifCond .ne 5, 3) := by decide +kernel
theorem dX4_link_11 : decode cX4_link 11 = .ok (.iconst (-1), 1) := by decide +kernel
theorem dX4_link_12 : decode cX4_link 12 = .ok (.ireturn, 1) := by decide +kernel
theorem dX4_link_13 : decode cX4_link 13 = .ok (.iload_n 2, 1) := by decide +kernel
theorem dX4_link_14 : decode cX4_link 14 = .ok (.iconst 0, 1) := by decide +kernel
theorem dX4_link_15 : decode cX4_link 15 = .ok (.iconst 5, 1) := by decide +kernel
theorem dX4_link_16 : decode cX4_link 16 = .ok (.invokestatic 30, 3) := by decide +kernel
theorem dX4_link_19 : decode cX4_link 19 = .ok (.ifCond .eq 20, 3) := by decide +kernel
theorem dX4_link_22 : decode cX4_link 22 = .ok (.iload_n 3, 1) := by decide +kernel
theorem dX4_link_23 : decode cX4_link 23 = .ok (.getstatic 41, 3) := by decide +kernel
theorem dX4_link_26 : decode cX4_link 26 = .ok (.iload_n 2, 1) := by decide +kernel
theorem dX4_link_27 : decode cX4_link 27 = .ok (.iaload, 1) := by decide +kernel
theorem dX4_link_28 : decode cX4_link 28 = .ok (.getstatic 45, 3) := by decide +kernel
theorem dX4_link_31 : decode cX4_link 31 = .ok (.iload_n 2, 1) := by decide +kernel
theorem dX4_link_32 : decode cX4_link 32 = .ok (.iaload, 1) := by decide +kernel
theorem dX4_link_33 : decode cX4_link 33 = .ok (.invokestatic 30, 3) := by decide +kernel
theorem dX4_link_36 : decode cX4_link 36 = .ok (.ifCond .ne 6, 3) := by decide +kernel
theorem dX4_link_39 : decode cX4_link 39 = .ok (.bipush (-2), 2) := by decide +kernel
theorem dX4_link_41 : decode cX4_link 41 = .ok (.ireturn, 1) := by decide +kernel
theorem dX4_link_42 : decode cX4_link 42 = .ok (.aload_n 0, 1) := by decide +kernel
theorem dX4_link_43 : decode cX4_link 43 = .ok (.getfield 12, 3) := by decide +kernel
theorem dX4_link_46 : decode cX4_link 46 = .ok (.getfield 48, 3) := by decide +kernel
theorem dX4_link_49 : decode cX4_link 49 = .ok (.iload_n 1, 1) := by decide +kernel
theorem dX4_link_50 : decode cX4_link 50 = .ok (.iload_n 2, 1) := by decide +kernel
theorem dX4_link_51 : decode cX4_link 51 = .ok (.invokevirtual 52, 3) := by decide +kernel
theorem dX4_link_54 : decode cX4_link 54 = .ok (.istore 4, 2) := by decide +kernel
theorem dX4_link_56 : decode cX4_link 56 = .ok (.aload_n 0, 1) := by decide +kernel
theorem dX4_link_57 : decode cX4_link 57 = .ok (.getfield 12, 3) := by decide +kernel
theorem dX4_link_60 : decode cX4_link 60 = .ok (.getfield 48, 3) := by decide +kernel
theorem dX4_link_63 : decode cX4_link 63 = .ok (.iload_n 1, 1) := by decide +kernel
theorem dX4_link_64 : decode cX4_link 64 = .ok (.iload_n 2, 1) := by decide +kernel
theorem dX4_link_65 : decode cX4_link 65 = .ok (.iload_n 3, 1) := by decide +kernel
theorem dX4_link_66 : decode cX4_link 66 = .ok (.invokevirtual 58, 3) := by decide +kernel
theorem dX4_link_69 : decode cX4_link 69 = .ok (.iload 4, 2) := by decide +kernel
theorem dX4_link_71 : decode cX4_link 71 = .ok (.ireturn, 1) := by decide +kernel
set_option maxRecDepth 20000 in
theorem ggX4_clock_X3_hasNode : GoodIn wsX4_clock wsX3_hasNode := goodIn_r _ [12, 13, 14, 15, 16, 32, 33, 34, 35, 36, 37, 38, 39] (by decide +kernel) (by decide +kernel)
set_option maxRecDepth 20000 in
theorem gX4_clock_X3_hasNode : GoodIn wsX4_clock (wsV RX4 62 RX3 yX3_hasNode wsX3_hasNode) := goodIn_app (goodIn_of _ (by decide +kernel)) ggX4_clock_X3_hasNode
set_option maxRecDepth 20000 in
theorem ggX4_clock_X4_within : GoodIn wsX4_clock wsX4_within := goodIn_r _ [16] (by decide +kernel) (by decide +kernel)
set_option maxRecDepth 20000 in
theorem gX4_clock_X4_within : GoodIn wsX4_clock (va_wsS RX4 30 yX4_within wsX4_within) := goodIn_app (goodIn_of _ (by decide +kernel)) ggX4_clock_X4_within
set_option maxRecDepth 20000 in
theorem ggX4_clock_X0_forget : GoodIn wsX4_clock wsX0_forget := goodIn_r _ [22, 23, 24, 25, 26, 21, 27, 40, 41] (by decide +kernel) (by decide +kernel)
set_option maxRecDepth 20000 in
theorem gX4_clock_X0_forget : GoodIn wsX4_clock (wsV RX4 78 RX0 yX0_forget wsX0_forget) := goodIn_app (goodIn_of _ (by decide +kernel)) ggX4_clock_X0_forget
theorem dX4_clock_0 : decode cX4_clock 0 = .ok (.aload_n 0, 1) := by decide +kernel
theorem dX4_clock_1 : decode cX4_clock 1 = .ok (.getfield 12, 3) := by decide +kernel
theorem dX4_clock_4 : decode cX4_clock 4 = .ok (.iload_n 1, 1) := by decide +kernel
theorem dX4_clock_5 : decode cX4_clock 5 = .ok (.invokevirtual 62, 3) := by decide +kernel
theorem dX4_clock_8 : decode cX4_clock 8 = .ok (.ifCond .ne 6, 3) := by decide +kernel
theorem dX4_clock_11 : decode cX4_clock 11 = .ok (.ldc 65, 2) := by decide +kernel
theorem dX4_clock_13 : decode cX4_clock 13 = .ok (.ireturn, 1) := by decide +kernel
theorem dX4_clock_14 : decode cX4_clock 14 = .ok (.iload_n 2, 1) := by decide +kernel
theorem dX4_clock_15 : decode cX4_clock 15 = .ok (.bipush (-99), 2) := by decide +kernel
theorem dX4_clock_17 : decode cX4_clock 17 = .ok (.bipush 99, 2) := by decide +kernel
theorem dX4_clock_19 : decode cX4_clock 19 = .ok (.invokestatic 30, 3) := by decide +kernel
theorem dX4_clock_22 : decode cX4_clock 22 = .ok (.ifCond .ne 6, 3) := by decide +kernel
theorem dX4_clock_25 : decode cX4_clock 25 = .ok (.ldc 66, 2) := by decide +kernel
theorem dX4_clock_27 : decode cX4_clock 27 = .ok (.ireturn, 1) := by decide +kernel
theorem dX4_clock_28 : decode cX4_clock 28 = .ok (.aload_n 0, 1) := by decide +kernel
theorem dX4_clock_29 : decode cX4_clock 29 = .ok (.getfield 12, 3) := by decide +kernel
theorem dX4_clock_32 : decode cX4_clock 32 = .ok (.getfield 67, 3) := by decide +kernel
theorem dX4_clock_35 : decode cX4_clock 35 = .ok (.ifCond .le 6, 3) := by decide +kernel
theorem dX4_clock_38 : decode cX4_clock 38 = .ok (.ldc 70, 2) := by decide +kernel
theorem dX4_clock_40 : decode cX4_clock 40 = .ok (.ireturn, 1) := by decide +kernel
theorem dX4_clock_41 : decode cX4_clock 41 = .ok (.aload_n 0, 1) := by decide +kernel
theorem dX4_clock_42 : decode cX4_clock 42 = .ok (.getfield 12, 3) := by decide +kernel
theorem dX4_clock_45 : decode cX4_clock 45 = .ok (.getfield 71, 3) := by decide +kernel
theorem dX4_clock_48 : decode cX4_clock 48 = .ok (.iload_n 1, 1) := by decide +kernel
theorem dX4_clock_49 : decode cX4_clock 49 = .ok (.iaload, 1) := by decide +kernel
theorem dX4_clock_50 : decode cX4_clock 50 = .ok (.istore_n 3, 1) := by decide +kernel
theorem dX4_clock_51 : decode cX4_clock 51 = .ok (.aload_n 0, 1) := by decide +kernel
theorem dX4_clock_52 : decode cX4_clock 52 = .ok (.getfield 12, 3) := by decide +kernel
theorem dX4_clock_55 : decode cX4_clock 55 = .ok (.getfield 71, 3) := by decide +kernel
theorem dX4_clock_58 : decode cX4_clock 58 = .ok (.iload_n 1, 1) := by decide +kernel
theorem dX4_clock_59 : decode cX4_clock 59 = .ok (.iload_n 2, 1) := by decide +kernel
theorem dX4_clock_60 : decode cX4_clock 60 = .ok (.iastore, 1) := by decide +kernel
theorem dX4_clock_61 : decode cX4_clock 61 = .ok (.aload_n 0, 1) := by decide +kernel
theorem dX4_clock_62 : decode cX4_clock 62 = .ok (.getfield 12, 3) := by decide +kernel
theorem dX4_clock_65 : decode cX4_clock 65 = .ok (.getfield 74, 3) := by decide +kernel
theorem dX4_clock_68 : decode cX4_clock 68 = .ok (.iload_n 1, 1) := by decide +kernel
theorem dX4_clock_69 : decode cX4_clock 69 = .ok (.invokevirtual 78, 3) := by decide +kernel
theorem dX4_clock_72 : decode cX4_clock 72 = .ok (.iload_n 3, 1) := by decide +kernel
theorem dX4_clock_73 : decode cX4_clock 73 = .ok (.ireturn, 1) := by decide +kernel
set_option maxRecDepth 20000 in
theorem ggX4_block_X4_within : GoodIn wsX4_block wsX4_within := goodIn_r _ [7] (by decide +kernel) (by decide +kernel)
set_option maxRecDepth 20000 in
theorem gX4_block_X4_within : GoodIn wsX4_block (va_wsS RX4 30 yX4_within wsX4_within) := goodIn_app (goodIn_of _ (by decide +kernel)) ggX4_block_X4_within
theorem dX4_block_0 : decode cX4_block 0 = .ok (.iload_n 1, 1) := by decide +kernel
theorem dX4_block_1 : decode cX4_block 1 = .ok (.iconst 1, 1) := by decide +kernel
theorem dX4_block_2 : decode cX4_block 2 = .ok (.bipush 20, 2) := by decide +kernel
theorem dX4_block_4 : decode cX4_block 4 = .ok (.invokestatic 30, 3) := by decide +kernel
theorem dX4_block_7 : decode cX4_block 7 = .ok (.ifCond .ne 6, 3) := by decide +kernel
theorem dX4_block_10 : decode cX4_block 10 = .ok (.bipush (-2), 2) := by decide +kernel
theorem dX4_block_12 : decode cX4_block 12 = .ok (.ireturn, 1) := by decide +kernel
theorem dX4_block_13 : decode cX4_block 13 = .ok (.aload_n 0, 1) := by decide +kernel
theorem dX4_block_14 : decode cX4_block 14 = .ok (.getfield 12, 3) := by decide +kernel
theorem dX4_block_17 : decode cX4_block 17 = .ok (.getfield 67, 3) := by decide +kernel
theorem dX4_block_20 : decode cX4_block 20 = .ok (.ifCond .le 6, 3) := by decide +kernel
theorem dX4_block_23 : decode cX4_block 23 = .ok (.bipush (-3), 2) := by decide +kernel
theorem dX4_block_25 : decode cX4_block 25 = .ok (.ireturn, 1) := by decide +kernel
theorem dX4_block_26 : decode cX4_block 26 = .ok (.aload_n 0, 1) := by decide +kernel
theorem dX4_block_27 : decode cX4_block 27 = .ok (.getfield 12, 3) := by decide +kernel
theorem dX4_block_30 : decode cX4_block 30 = .ok (.getfield 83, 3) := by decide +kernel
theorem dX4_block_33 : decode cX4_block 33 = .ok (.istore_n 2, 1) := by decide +kernel
theorem dX4_block_34 : decode cX4_block 34 = .ok (.aload_n 0, 1) := by decide +kernel
theorem dX4_block_35 : decode cX4_block 35 = .ok (.getfield 12, 3) := by decide +kernel
theorem dX4_block_38 : decode cX4_block 38 = .ok (.iload_n 1, 1) := by decide +kernel
theorem dX4_block_39 : decode cX4_block 39 = .ok (.putfield 83, 3) := by decide +kernel
theorem dX4_block_42 : decode cX4_block 42 = .ok (.iload_n 2, 1) := by decide +kernel
theorem dX4_block_43 : decode cX4_block 43 = .ok (.ireturn, 1) := by decide +kernel
set_option maxRecDepth 20000 in
theorem ggX4_pause_X4_within : GoodIn wsX4_pause wsX4_within := goodIn_r _ [6] (by decide +kernel) (by decide +kernel)
set_option maxRecDepth 20000 in
theorem gX4_pause_X4_within : GoodIn wsX4_pause (va_wsS RX4 30 yX4_within wsX4_within) := goodIn_app (goodIn_of _ (by decide +kernel)) ggX4_pause_X4_within
theorem dX4_pause_0 : decode cX4_pause 0 = .ok (.iload_n 1, 1) := by decide +kernel
theorem dX4_pause_1 : decode cX4_pause 1 = .ok (.iconst 1, 1) := by decide +kernel
theorem dX4_pause_2 : decode cX4_pause 2 = .ok (.sipush 999, 3) := by decide +kernel
theorem dX4_pause_5 : decode cX4_pause 5 = .ok (.invokestatic 30, 3) := by decide +kernel
theorem dX4_pause_8 : decode cX4_pause 8 = .ok (.ifCond .ne 6, 3) := by decide +kernel
theorem dX4_pause_11 : decode cX4_pause 11 = .ok (.bipush (-2), 2) := by decide +kernel
theorem dX4_pause_13 : decode cX4_pause 13 = .ok (.ireturn, 1) := by decide +kernel
theorem dX4_pause_14 : decode cX4_pause 14 = .ok (.aload_n 0, 1) := by decide +kernel
theorem dX4_pause_15 : decode cX4_pause 15 = .ok (.getfield 12, 3) := by decide +kernel
theorem dX4_pause_18 : decode cX4_pause 18 = .ok (.getfield 86, 3) := by decide +kernel
theorem dX4_pause_21 : decode cX4_pause 21 = .ok (.iload_n 1, 1) := by decide +kernel
theorem dX4_pause_22 : decode cX4_pause 22 = .ok (.iadd, 1) := by decide +kernel
theorem dX4_pause_23 : decode cX4_pause 23 = .ok (.sipush 9999, 3) := by decide +kernel
theorem dX4_pause_26 : decode cX4_pause 26 = .ok (.if_icmp .le 6, 3) := by decide +kernel
theorem dX4_pause_29 : decode cX4_pause 29 = .ok (.bipush (-4), 2) := by decide +kernel
theorem dX4_pause_31 : decode cX4_pause 31 = .ok (.ireturn, 1) := by decide +kernel
theorem dX4_pause_32 : decode cX4_pause 32 = .ok (.aload_n 0, 1) := by decide +kernel
theorem dX4_pause_33 : decode cX4_pause 33 = .ok (.getfield 12, 3) := by decide +kernel
theorem dX4_pause_36 : decode cX4_pause 36 = .ok (.dup, 1) := by decide +kernel
theorem dX4_pause_37 : decode cX4_pause 37 = .ok (.getfield 86, 3) := by decide +kernel
theorem dX4_pause_40 : decode cX4_pause 40 = .ok (.iload_n 1, 1) := by decide +kernel
theorem dX4_pause_41 : decode cX4_pause 41 = .ok (.iadd, 1) := by decide +kernel
theorem dX4_pause_42 : decode cX4_pause 42 = .ok (.putfield 86, 3) := by decide +kernel
theorem dX4_pause_45 : decode cX4_pause 45 = .ok (.aload_n 0, 1) := by decide +kernel
theorem dX4_pause_46 : decode cX4_pause 46 = .ok (.getfield 12, 3) := by decide +kernel
theorem dX4_pause_49 : decode cX4_pause 49 = .ok (.getfield 86, 3) := by decide +kernel
theorem dX4_pause_52 : decode cX4_pause 52 = .ok (.ireturn, 1) := by decide +kernel
set_option maxRecDepth 20000 in
theorem ggX4_send_X4_within : GoodIn wsX4_send wsX4_within := goodIn_r _ [7] (by decide +kernel) (by decide +kernel)
set_option maxRecDepth 20000 in
theorem gX4_send_X4_within : GoodIn wsX4_send (va_wsS RX4 30 yX4_within wsX4_within) := goodIn_app (goodIn_of _ (by decide +kernel)) ggX4_send_X4_within
set_option maxRecDepth 20000 in
theorem ggX4_send_X3_sendPacket : GoodIn wsX4_send wsX3_sendPacket := goodIn_r _ [12, 13, 14, 15, 16, 17, 18, 19, 20, 6, 21, 22, 23, 24, 25, 26, 27, 28, 29, 30, 31, 32, 33, 34, 35, 36, 37, 38, 39, 40, 41, 42, 43, 44, 45, 46, 47, 52, 53, 54, 55, 56, 57, 58, 59, 60, 61, 62] (by decide +kernel) (by decide +kernel)
set_option maxRecDepth 20000 in
theorem gX4_send_X3_sendPacket : GoodIn wsX4_send (wsV RX4 89 RX3 yX3_sendPacket wsX3_sendPacket) := goodIn_app (goodIn_of _ (by decide +kernel)) ggX4_send_X3_sendPacket
theorem dX4_send_0 : decode cX4_send 0 = .ok (.iload_n 1, 1) := by decide +kernel
theorem dX4_send_1 : decode cX4_send 1 = .ok (.iconst 1, 1) := by decide +kernel
theorem dX4_send_2 : decode cX4_send 2 = .ok (.bipush 60, 2) := by decide +kernel
theorem dX4_send_4 : decode cX4_send 4 = .ok (.invokestatic 30, 3) := by decide +kernel
theorem dX4_send_7 : decode cX4_send 7 = .ok (.ifCond .ne 6, 3) := by decide +kernel
theorem dX4_send_10 : decode cX4_send 10 = .ok (.bipush (-2), 2) := by decide +kernel
theorem dX4_send_12 : decode cX4_send 12 = .ok (.ireturn, 1) := by decide +kernel
theorem dX4_send_13 : decode cX4_send 13 = .ok (.aload_n 0, 1) := by decide +kernel
theorem dX4_send_14 : decode cX4_send 14 = .ok (.getfield 12, 3) := by decide +kernel
theorem dX4_send_17 : decode cX4_send 17 = .ok (.getfield 67, 3) := by decide +kernel
theorem dX4_send_20 : decode cX4_send 20 = .ok (.iload_n 1, 1) := by decide +kernel
theorem dX4_send_21 : decode cX4_send 21 = .ok (.iadd, 1) := by decide +kernel
theorem dX4_send_22 : decode cX4_send 22 = .ok (.sipush 200, 3) := by decide +kernel
theorem dX4_send_25 : decode cX4_send 25 = .ok (.if_icmp .gt 18, 3) := by decide +kernel
theorem dX4_send_28 : decode cX4_send 28 = .ok (.aload_n 0, 1) := by decide +kernel
theorem dX4_send_29 : decode cX4_send 29 = .ok (.getfield 12, 3) := by decide +kernel
theorem dX4_send_32 : decode cX4_send 32 = .ok (.getfield 86, 3) := by decide +kernel
theorem dX4_send_35 : decode cX4_send 35 = .ok (.iload_n 1, 1) := by decide +kernel
theorem dX4_send_36 : decode cX4_send 36 = .ok (.iadd, 1) := by decide +kernel
theorem dX4_send_37 : decode cX4_send 37 = .ok (.sipush 9999, 3) := by decide +kernel
theorem dX4_send_40 : decode cX4_send 40 = .ok (.if_icmp .le 6, 3) := by decide +kernel
theorem dX4_send_43 : decode cX4_send 43 = .ok (.bipush (-4), 2) := by decide +kernel
theorem dX4_send_45 : decode cX4_send 45 = .ok (.ireturn, 1) := by decide +kernel
theorem dX4_send_46 : decode cX4_send 46 = .ok (.iconst 0, 1) := by decide +kernel
theorem dX4_send_47 : decode cX4_send 47 = .ok (.istore_n 2, 1) := by decide +kernel
theorem dX4_send_48 : decode cX4_send 48 = .ok (.iconst 0, 1) := by decide +kernel
theorem dX4_send_49 : decode cX4_send 49 = .ok (.istore_n 3, 1) := by decide +kernel
theorem dX4_send_50 : decode cX4_send 50 = .ok (.iload_n 3, 1) := by decide +kernel
theorem dX4_send_51 : decode cX4_send 51 = .ok (.iload_n 1, 1) := by decide +kernel
theorem dX4_send_52 : decode cX4_send 52 = .ok (.if_icmp .ge 22, 3) := by decide +kernel
theorem dX4_send_55 : decode cX4_send 55 = .ok (.aload_n 0, 1) := by decide +kernel
theorem dX4_send_56 : decode cX4_send 56 = .ok (.getfield 12, 3) := by decide +kernel
theorem dX4_send_59 : decode cX4_send 59 = .ok (.invokevirtual 89, 3) := by decide +kernel
theorem dX4_send_62 : decode cX4_send 62 = .ok (.ifCond .eq 6, 3) := by decide +kernel
theorem dX4_send_65 : decode cX4_send 65 = .ok (.iinc 2 1, 3) := by decide +kernel
theorem dX4_send_68 : decode cX4_send 68 = .ok (.iinc 3 1, 3) := by decide +kernel
theorem dX4_send_71 : decode cX4_send 71 = .ok (.goto (-21), 3) := by decide +kernel
theorem dX4_send_74 : decode cX4_send 74 = .ok (.iload_n 2, 1) := by decide +kernel
theorem dX4_send_75 : decode cX4_send 75 = .ok (.ireturn, 1) := by decide +kernel
set_option maxRecDepth 20000 in
theorem ggX4_kept_X3_hasNode : GoodIn wsX4_kept wsX3_hasNode := goodIn_r _ [9, 10, 11, 12, 13, 36, 37, 38, 39, 40, 41, 42, 43] (by decide +kernel) (by decide +kernel)
set_option maxRecDepth 20000 in
theorem gX4_kept_X3_hasNode : GoodIn wsX4_kept (wsV RX4 62 RX3 yX3_hasNode wsX3_hasNode) := goodIn_app (goodIn_of _ (by decide +kernel)) ggX4_kept_X3_hasNode
set_option maxRecDepth 20000 in
theorem ggX4_kept_X4_isBlock : GoodIn wsX4_kept wsX4_isBlock := goodIn_r _ [16, 17, 11, 12, 13] (by decide +kernel) (by decide +kernel)
set_option maxRecDepth 20000 in
theorem gX4_kept_X4_isBlock : GoodIn wsX4_kept (va_wsS RX4 93 yX4_isBlock wsX4_isBlock) := goodIn_app (goodIn_of _ (by decide +kernel)) ggX4_kept_X4_isBlock
set_option maxRecDepth 20000 in
theorem ggX4_kept_X4_within : GoodIn wsX4_kept wsX4_within := goodIn_r _ [13] (by decide +kernel) (by decide +kernel)
set_option maxRecDepth 20000 in
theorem gX4_kept_X4_within : GoodIn wsX4_kept (va_wsS RX4 30 yX4_within wsX4_within) := goodIn_app (goodIn_of _ (by decide +kernel)) ggX4_kept_X4_within
set_option maxRecDepth 20000 in
theorem ggX4_kept_X2_countOf : GoodIn wsX4_kept wsX2_countOf := goodIn_r _ [22, 23, 24, 25, 21, 26, 44, 45] (by decide +kernel) (by decide +kernel)
set_option maxRecDepth 20000 in
theorem gX4_kept_X2_countOf : GoodIn wsX4_kept (wsV RX4 100 RX2 yX2_countOf wsX2_countOf) := goodIn_app (goodIn_of _ (by decide +kernel)) ggX4_kept_X2_countOf
set_option maxRecDepth 20000 in
theorem ggX4_kept_X2_sumOf : GoodIn wsX4_kept wsX2_sumOf := goodIn_r _ [30, 31, 24, 25, 21, 26, 44, 45] (by decide +kernel) (by decide +kernel)
set_option maxRecDepth 20000 in
theorem gX4_kept_X2_sumOf : GoodIn wsX4_kept (wsV RX4 105 RX2 yX2_sumOf wsX2_sumOf) := goodIn_app (goodIn_of _ (by decide +kernel)) ggX4_kept_X2_sumOf
theorem dX4_kept_0 : decode cX4_kept 0 = .ok (.aload_n 0, 1) := by decide +kernel
theorem dX4_kept_1 : decode cX4_kept 1 = .ok (.getfield 12, 3) := by decide +kernel
theorem dX4_kept_4 : decode cX4_kept 4 = .ok (.iload_n 1, 1) := by decide +kernel
theorem dX4_kept_5 : decode cX4_kept 5 = .ok (.invokevirtual 62, 3) := by decide +kernel
theorem dX4_kept_8 : decode cX4_kept 8 = .ok (.ifCond .ne 6, 3) := by decide +kernel
theorem dX4_kept_11 : decode cX4_kept 11 = .ok (.ldc 65, 2) := by decide +kernel
theorem dX4_kept_13 : decode cX4_kept 13 = .ok (.ireturn, 1) := by decide +kernel
theorem dX4_kept_14 : decode cX4_kept 14 = .ok (.iload_n 2, 1) := by decide +kernel
theorem dX4_kept_15 : decode cX4_kept 15 = .ok (.invokestatic 93, 3) := by decide +kernel
theorem dX4_kept_18 : decode cX4_kept 18 = .ok (.ifCond .eq 12, 3) := by decide +kernel
theorem dX4_kept_21 : decode cX4_kept 21 = .ok (.iload_n 3, 1) := by decide +kernel
theorem dX4_kept_22 : decode cX4_kept 22 = .ok (.iconst 0, 1) := by decide +kernel
theorem dX4_kept_23 : decode cX4_kept 23 = .ok (.iconst 1, 1) := by decide +kernel
theorem dX4_kept_24 : decode cX4_kept 24 = .ok (.invokestatic 30, 3) := by decide +kernel
theorem dX4_kept_27 : decode cX4_kept 27 = .ok (.ifCond .ne 6, 3) := by decide +kernel
theorem dX4_kept_30 : decode cX4_kept 30 = .ok (.ldc 66, 2) := by decide +kernel
theorem dX4_kept_32 : decode cX4_kept 32 = .ok (.ireturn, 1) := by decide +kernel
theorem dX4_kept_33 : decode cX4_kept 33 = .ok (.iload_n 3, 1) := by decide +kernel
theorem dX4_kept_34 : decode cX4_kept 34 = .ok (.ifCond .ne 18, 3) := by decide +kernel
theorem dX4_kept_37 : decode cX4_kept 37 = .ok (.aload_n 0, 1) := by decide +kernel
theorem dX4_kept_38 : decode cX4_kept 38 = .ok (.getfield 12, 3) := by decide +kernel
theorem dX4_kept_41 : decode cX4_kept 41 = .ok (.getfield 96, 3) := by decide +kernel
theorem dX4_kept_44 : decode cX4_kept 44 = .ok (.iload_n 1, 1) := by decide +kernel
theorem dX4_kept_45 : decode cX4_kept 45 = .ok (.iload_n 2, 1) := by decide +kernel
theorem dX4_kept_46 : decode cX4_kept 46 = .ok (.invokevirtual 100, 3) := by decide +kernel
theorem dX4_kept_49 : decode cX4_kept 49 = .ok (.goto 15, 3) := by decide +kernel
theorem dX4_kept_52 : decode cX4_kept 52 = .ok (.aload_n 0, 1) := by decide +kernel
theorem dX4_kept_53 : decode cX4_kept 53 = .ok (.getfield 12, 3) := by decide +kernel
theorem dX4_kept_56 : decode cX4_kept 56 = .ok (.getfield 96, 3) := by decide +kernel
theorem dX4_kept_59 : decode cX4_kept 59 = .ok (.iload_n 1, 1) := by decide +kernel
theorem dX4_kept_60 : decode cX4_kept 60 = .ok (.iload_n 2, 1) := by decide +kernel
theorem dX4_kept_61 : decode cX4_kept 61 = .ok (.invokevirtual 105, 3) := by decide +kernel
theorem dX4_kept_64 : decode cX4_kept 64 = .ok (.ireturn, 1) := by decide +kernel
set_option maxRecDepth 20000 in
theorem ggX4_lost_X3_hasLink : GoodIn wsX4_lost wsX3_hasLink := goodIn_r _ [7, 8, 9, 10, 11, 38, 39, 40, 41, 42, 43, 44, 45] (by decide +kernel) (by decide +kernel)
set_option maxRecDepth 20000 in
theorem gX4_lost_X3_hasLink : GoodIn wsX4_lost (wsV RX4 37 RX3 yX3_hasLink wsX3_hasLink) := goodIn_app (goodIn_of _ (by decide +kernel)) ggX4_lost_X3_hasLink
set_option maxRecDepth 20000 in
theorem ggX4_lost_X4_isBlock : GoodIn wsX4_lost wsX4_isBlock := goodIn_r _ [14, 15, 9, 10, 11] (by decide +kernel) (by decide +kernel)
set_option maxRecDepth 20000 in
theorem gX4_lost_X4_isBlock : GoodIn wsX4_lost (va_wsS RX4 93 yX4_isBlock wsX4_isBlock) := goodIn_app (goodIn_of _ (by decide +kernel)) ggX4_lost_X4_isBlock
set_option maxRecDepth 20000 in
theorem ggX4_lost_X2_lostOfAll : GoodIn wsX4_lost wsX2_lostOfAll := goodIn_r _ [20, 21, 22, 23, 19, 24, 25, 26, 27, 28, 29, 30, 31, 32, 46, 47] (by decide +kernel) (by decide +kernel)
set_option maxRecDepth 20000 in
theorem gX4_lost_X2_lostOfAll : GoodIn wsX4_lost (wsV RX4 108 RX2 yX2_lostOfAll wsX2_lostOfAll) := goodIn_app (goodIn_of _ (by decide +kernel)) ggX4_lost_X2_lostOfAll
set_option maxRecDepth 20000 in
theorem ggX4_lost_X2_lostBetween : GoodIn wsX4_lost wsX2_lostBetween := goodIn_r _ [24, 25, 26, 27, 19, 28, 29, 30, 31, 32, 46, 47] (by decide +kernel) (by decide +kernel)
set_option maxRecDepth 20000 in
theorem gX4_lost_X2_lostBetween : GoodIn wsX4_lost (wsV RX4 112 RX2 yX2_lostBetween wsX2_lostBetween) := goodIn_app (goodIn_of _ (by decide +kernel)) ggX4_lost_X2_lostBetween
theorem dX4_lost_0 : decode cX4_lost 0 = .ok (.aload_n 0, 1) := by decide +kernel
theorem dX4_lost_1 : decode cX4_lost 1 = .ok (.getfield 12, 3) := by decide +kernel
theorem dX4_lost_4 : decode cX4_lost 4 = .ok (.iload_n 1, 1) := by decide +kernel
theorem dX4_lost_5 : decode cX4_lost 5 = .ok (.invokevirtual 37, 3) := by decide +kernel
theorem dX4_lost_8 : decode cX4_lost 8 = .ok (.ifCond .ne 5, 3) := by decide +kernel
theorem dX4_lost_11 : decode cX4_lost 11 = .ok (.iconst (-1), 1) := by decide +kernel
theorem dX4_lost_12 : decode cX4_lost 12 = .ok (.ireturn, 1) := by decide +kernel
theorem dX4_lost_13 : decode cX4_lost 13 = .ok (.iload_n 2, 1) := by decide +kernel
theorem dX4_lost_14 : decode cX4_lost 14 = .ok (.iconst (-1), 1) := by decide +kernel
theorem dX4_lost_15 : decode cX4_lost 15 = .ok (.if_icmp .eq 13, 3) := by decide +kernel
theorem dX4_lost_18 : decode cX4_lost 18 = .ok (.iload_n 2, 1) := by decide +kernel
theorem dX4_lost_19 : decode cX4_lost 19 = .ok (.invokestatic 93, 3) := by decide +kernel
theorem dX4_lost_22 : decode cX4_lost 22 = .ok (.ifCond .ne 6, 3) := by decide +kernel
theorem dX4_lost_25 : decode cX4_lost 25 = .ok (.bipush (-2), 2) := by decide +kernel
theorem dX4_lost_27 : decode cX4_lost 27 = .ok (.ireturn, 1) := by decide +kernel
theorem dX4_lost_28 : decode cX4_lost 28 = .ok (.iload_n 2, 1) := by decide +kernel
theorem dX4_lost_29 : decode cX4_lost 29 = .ok (.iconst (-1), 1) := by decide +kernel
theorem dX4_lost_30 : decode cX4_lost 30 = .ok (.if_icmp .ne 17, 3) := by decide +kernel
theorem dX4_lost_33 : decode cX4_lost 33 = .ok (.aload_n 0, 1) := by decide +kernel
theorem dX4_lost_34 : decode cX4_lost 34 = .ok (.getfield 12, 3) := by decide +kernel
theorem dX4_lost_37 : decode cX4_lost 37 = .ok (.getfield 96, 3) := by decide +kernel
theorem dX4_lost_40 : decode cX4_lost 40 = .ok (.iload_n 1, 1) := by decide +kernel
theorem dX4_lost_41 : decode cX4_lost 41 = .ok (.invokevirtual 108, 3) := by decide +kernel
theorem dX4_lost_44 : decode cX4_lost 44 = .ok (.goto 18, 3) := by decide +kernel
theorem dX4_lost_47 : decode cX4_lost 47 = .ok (.aload_n 0, 1) := by decide +kernel
theorem dX4_lost_48 : decode cX4_lost 48 = .ok (.getfield 12, 3) := by decide +kernel
theorem dX4_lost_51 : decode cX4_lost 51 = .ok (.getfield 96, 3) := by decide +kernel
theorem dX4_lost_54 : decode cX4_lost 54 = .ok (.iload_n 1, 1) := by decide +kernel
theorem dX4_lost_55 : decode cX4_lost 55 = .ok (.iload_n 1, 1) := by decide +kernel
theorem dX4_lost_56 : decode cX4_lost 56 = .ok (.iconst 1, 1) := by decide +kernel
theorem dX4_lost_57 : decode cX4_lost 57 = .ok (.iadd, 1) := by decide +kernel
theorem dX4_lost_58 : decode cX4_lost 58 = .ok (.iload_n 2, 1) := by decide +kernel
theorem dX4_lost_59 : decode cX4_lost 59 = .ok (.invokevirtual 112, 3) := by decide +kernel
theorem dX4_lost_62 : decode cX4_lost 62 = .ok (.ireturn, 1) := by decide +kernel
set_option maxRecDepth 20000 in
theorem ggX4_took_X4_tookRefusal : GoodIn wsX4_took wsX4_tookRefusal := goodIn_r _ [9, 10, 11, 12, 8, 13, 2, 14, 15, 16, 17, 18, 19, 20, 21, 22, 23, 24, 25, 58, 59, 60, 61, 62, 63, 64, 65, 66, 67, 68, 69] (by decide +kernel) (by decide +kernel)
set_option maxRecDepth 20000 in
theorem gX4_took_X4_tookRefusal : GoodIn wsX4_took (wsV RX4 116 RX4 yX4_tookRefusal wsX4_tookRefusal) := goodIn_app (goodIn_of _ (by decide +kernel)) ggX4_took_X4_tookRefusal
set_option maxRecDepth 20000 in
theorem ggX4_took_X2_hasTook : GoodIn wsX4_took wsX2_hasTook := goodIn_r _ [30, 31, 32, 33, 29, 34, 35, 36, 37, 38, 70, 71] (by decide +kernel) (by decide +kernel)
set_option maxRecDepth 20000 in
theorem gX4_took_X2_hasTook : GoodIn wsX4_took (wsV RX4 121 RX2 yX2_hasTook wsX2_hasTook) := goodIn_app (goodIn_of _ (by decide +kernel)) ggX4_took_X2_hasTook
set_option maxRecDepth 20000 in
theorem ggX4_took_X2_tookUpper : GoodIn wsX4_took wsX2_tookUpper := goodIn_r _ [42, 43, 44, 45, 29, 46, 47, 36, 37, 38, 70, 71] (by decide +kernel) (by decide +kernel)
set_option maxRecDepth 20000 in
theorem gX4_took_X2_tookUpper : GoodIn wsX4_took (wsV RX4 125 RX2 yX2_tookUpper wsX2_tookUpper) := goodIn_app (goodIn_of _ (by decide +kernel)) ggX4_took_X2_tookUpper
set_option maxRecDepth 20000 in
theorem ggX4_took_X2_countOf : GoodIn wsX4_took wsX2_countOf := goodIn_r _ [34, 35, 36, 37, 29, 38, 70, 71] (by decide +kernel) (by decide +kernel)
set_option maxRecDepth 20000 in
theorem gX4_took_X2_countOf : GoodIn wsX4_took (wsV RX4 100 RX2 yX2_countOf wsX2_countOf) := goodIn_app (goodIn_of _ (by decide +kernel)) ggX4_took_X2_countOf
set_option maxRecDepth 20000 in
theorem ggX4_took_X4_fractionPart : GoodIn wsX4_took wsX4_fractionPart := goodIn_r _ [51, 52, 53, 8, 54, 55, 56, 57] (by decide +kernel) (by decide +kernel)
set_option maxRecDepth 20000 in
theorem gX4_took_X4_fractionPart : GoodIn wsX4_took (va_wsS RX4 128 yX4_fractionPart wsX4_fractionPart) := goodIn_app (goodIn_of _ (by decide +kernel)) ggX4_took_X4_fractionPart
theorem dX4_took_0 : decode cX4_took 0 = .ok (.aload_n 0, 1) := by decide +kernel
theorem dX4_took_1 : decode cX4_took 1 = .ok (.iload_n 1, 1) := by decide +kernel
theorem dX4_took_2 : decode cX4_took 2 = .ok (.iload_n 2, 1) := by decide +kernel
theorem dX4_took_3 : decode cX4_took 3 = .ok (.iload_n 3, 1) := by decide +kernel
theorem dX4_took_4 : decode cX4_took 4 = .ok (.iload 4, 2) := by decide +kernel
theorem dX4_took_6 : decode cX4_took 6 = .ok (.invokevirtual 116, 3) := by decide +kernel
theorem dX4_took_9 : decode cX4_took 9 = .ok (.istore 5, 2) := by decide +kernel
theorem dX4_took_11 : decode cX4_took 11 = .ok (.iload 5, 2) := by decide +kernel
theorem dX4_took_13 : decode cX4_took 13 = .ok (.ifCond .eq 9, 3) := by decide +kernel
theorem dX4_took_16 : decode cX4_took 16 = .ok (.ldc 120, 2) := by decide +kernel
theorem dX4_took_18 : decode cX4_took 18 = .ok (.iload 5, 2) := by decide +kernel
theorem dX4_took_20 : decode cX4_took 20 = .ok (.iadd, 1) := by decide +kernel
theorem dX4_took_21 : decode cX4_took 21 = .ok (.ireturn, 1) := by decide +kernel
theorem dX4_took_22 : decode cX4_took 22 = .ok (.aload_n 0, 1) := by decide +kernel
theorem dX4_took_23 : decode cX4_took 23 = .ok (.getfield 12, 3) := by decide +kernel
theorem dX4_took_26 : decode cX4_took 26 = .ok (.getfield 96, 3) := by decide +kernel
theorem dX4_took_29 : decode cX4_took 29 = .ok (.iload_n 1, 1) := by decide +kernel
theorem dX4_took_30 : decode cX4_took 30 = .ok (.iload_n 2, 1) := by decide +kernel
theorem dX4_took_31 : decode cX4_took 31 = .ok (.iload_n 3, 1) := by decide +kernel
theorem dX4_took_32 : decode cX4_took 32 = .ok (.invokevirtual 121, 3) := by decide +kernel
theorem dX4_took_35 : decode cX4_took 35 = .ok (.ifCond .ne 6, 3) := by decide +kernel
theorem dX4_took_38 : decode cX4_took 38 = .ok (.ldc 124, 2) := by decide +kernel
theorem dX4_took_40 : decode cX4_took 40 = .ok (.ireturn, 1) := by decide +kernel
theorem dX4_took_41 : decode cX4_took 41 = .ok (.aload_n 0, 1) := by decide +kernel
theorem dX4_took_42 : decode cX4_took 42 = .ok (.getfield 12, 3) := by decide +kernel
theorem dX4_took_45 : decode cX4_took 45 = .ok (.getfield 96, 3) := by decide +kernel
theorem dX4_took_48 : decode cX4_took 48 = .ok (.iload_n 1, 1) := by decide +kernel
theorem dX4_took_49 : decode cX4_took 49 = .ok (.iload_n 2, 1) := by decide +kernel
theorem dX4_took_50 : decode cX4_took 50 = .ok (.iload_n 3, 1) := by decide +kernel
theorem dX4_took_51 : decode cX4_took 51 = .ok (.invokevirtual 125, 3) := by decide +kernel
theorem dX4_took_54 : decode cX4_took 54 = .ok (.aload_n 0, 1) := by decide +kernel
theorem dX4_took_55 : decode cX4_took 55 = .ok (.getfield 12, 3) := by decide +kernel
theorem dX4_took_58 : decode cX4_took 58 = .ok (.getfield 96, 3) := by decide +kernel
theorem dX4_took_61 : decode cX4_took 61 = .ok (.iload_n 1, 1) := by decide +kernel
theorem dX4_took_62 : decode cX4_took 62 = .ok (.iload_n 3, 1) := by decide +kernel
theorem dX4_took_63 : decode cX4_took 63 = .ok (.invokevirtual 100, 3) := by decide +kernel
theorem dX4_took_66 : decode cX4_took 66 = .ok (.iload 4, 2) := by decide +kernel
theorem dX4_took_68 : decode cX4_took 68 = .ok (.invokestatic 128, 3) := by decide +kernel
theorem dX4_took_71 : decode cX4_took 71 = .ok (.ireturn, 1) := by decide +kernel
set_option maxRecDepth 20000 in
theorem ggX4_first_X4_within : GoodIn wsX4_first wsX4_within := goodIn_r _ [6] (by decide +kernel) (by decide +kernel)
set_option maxRecDepth 20000 in
theorem gX4_first_X4_within : GoodIn wsX4_first (va_wsS RX4 30 yX4_within wsX4_within) := goodIn_app (goodIn_of _ (by decide +kernel)) ggX4_first_X4_within
set_option maxRecDepth 20000 in
theorem ggX4_first_X3_firstBlockAbove : GoodIn wsX4_first wsX3_firstBlockAbove := goodIn_r _ [11, 12, 13, 14, 15, 16, 17, 18, 19, 20, 21, 22, 23, 24, 25, 26, 39, 40, 41, 42, 43, 44, 45, 46, 47, 48] (by decide +kernel) (by decide +kernel)
set_option maxRecDepth 20000 in
theorem gX4_first_X3_firstBlockAbove : GoodIn wsX4_first (wsV RX4 131 RX3 yX3_firstBlockAbove wsX3_firstBlockAbove) := goodIn_app (goodIn_of _ (by decide +kernel)) ggX4_first_X3_firstBlockAbove
set_option maxRecDepth 20000 in
theorem ggX4_first_X4_isBlock : GoodIn wsX4_first wsX4_isBlock := goodIn_r _ [29, 3, 4, 5, 6] (by decide +kernel) (by decide +kernel)
set_option maxRecDepth 20000 in
theorem gX4_first_X4_isBlock : GoodIn wsX4_first (va_wsS RX4 93 yX4_isBlock wsX4_isBlock) := goodIn_app (goodIn_of _ (by decide +kernel)) ggX4_first_X4_isBlock
set_option maxRecDepth 20000 in
theorem ggX4_first_X3_firstLinkThatLost : GoodIn wsX4_first wsX3_firstLinkThatLost := goodIn_r _ [33, 13, 12, 14, 15, 16, 17, 18, 19, 20, 21, 22, 23, 24, 25, 26, 39, 40, 41, 42, 43, 44, 45, 46, 47, 48] (by decide +kernel) (by decide +kernel)
set_option maxRecDepth 20000 in
theorem gX4_first_X3_firstLinkThatLost : GoodIn wsX4_first (wsV RX4 134 RX3 yX3_firstLinkThatLost wsX3_firstLinkThatLost) := goodIn_app (goodIn_of _ (by decide +kernel)) ggX4_first_X3_firstLinkThatLost
set_option maxRecDepth 20000 in
theorem ggX4_first_X2_lostBetween : GoodIn wsX4_first wsX2_lostBetween := goodIn_r _ [18, 19, 20, 21, 17, 22, 23, 24, 25, 26, 47, 48] (by decide +kernel) (by decide +kernel)
set_option maxRecDepth 20000 in
theorem gX4_first_X2_lostBetween : GoodIn wsX4_first (wsV RX4 112 RX2 yX2_lostBetween wsX2_lostBetween) := goodIn_app (goodIn_of _ (by decide +kernel)) ggX4_first_X2_lostBetween
theorem dX4_first_0 : decode cX4_first 0 = .ok (.iload_n 1, 1) := by decide +kernel
theorem dX4_first_1 : decode cX4_first 1 = .ok (.iconst 0, 1) := by decide +kernel
theorem dX4_first_2 : decode cX4_first 2 = .ok (.bipush 20, 2) := by decide +kernel
theorem dX4_first_4 : decode cX4_first 4 = .ok (.invokestatic 30, 3) := by decide +kernel
theorem dX4_first_7 : decode cX4_first 7 = .ok (.ifCond .eq 12, 3) := by decide +kernel
theorem dX4_first_10 : decode cX4_first 10 = .ok (.iload_n 2, 1) := by decide +kernel
theorem dX4_first_11 : decode cX4_first 11 = .ok (.iconst 0, 1) := by decide +kernel
theorem dX4_first_12 : decode cX4_first 12 = .ok (.iconst 2, 1) := by decide +kernel
theorem dX4_first_13 : decode cX4_first 13 = .ok (.invokestatic 30, 3) := by decide +kernel
theorem dX4_first_16 : decode cX4_first 16 = .ok (.ifCond .ne 6, 3) := by decide +kernel
theorem dX4_first_19 : decode cX4_first 19 = .ok (.bipush (-2), 2) := by decide +kernel
theorem dX4_first_21 : decode cX4_first 21 = .ok (.ireturn, 1) := by decide +kernel
theorem dX4_first_22 : decode cX4_first 22 = .ok (.aload_n 0, 1) := by decide +kernel
theorem dX4_first_23 : decode cX4_first 23 = .ok (.getfield 12, 3) := by decide +kernel
theorem dX4_first_26 : decode cX4_first 26 = .ok (.iload_n 1, 1) := by decide +kernel
theorem dX4_first_27 : decode cX4_first 27 = .ok (.invokevirtual 131, 3) := by decide +kernel
theorem dX4_first_30 : decode cX4_first 30 = .ok (.istore_n 3, 1) := by decide +kernel
theorem dX4_first_31 : decode cX4_first 31 = .ok (.iload_n 3, 1) := by decide +kernel
theorem dX4_first_32 : decode cX4_first 32 = .ok (.invokestatic 93, 3) := by decide +kernel
theorem dX4_first_35 : decode cX4_first 35 = .ok (.ifCond .ne 6, 3) := by decide +kernel
theorem dX4_first_38 : decode cX4_first 38 = .ok (.bipush (-6), 2) := by decide +kernel
theorem dX4_first_40 : decode cX4_first 40 = .ok (.ireturn, 1) := by decide +kernel
theorem dX4_first_41 : decode cX4_first 41 = .ok (.iload_n 2, 1) := by decide +kernel
theorem dX4_first_42 : decode cX4_first 42 = .ok (.ifCond .ne 5, 3) := by decide +kernel
theorem dX4_first_45 : decode cX4_first 45 = .ok (.iload_n 3, 1) := by decide +kernel
theorem dX4_first_46 : decode cX4_first 46 = .ok (.ireturn, 1) := by decide +kernel
theorem dX4_first_47 : decode cX4_first 47 = .ok (.aload_n 0, 1) := by decide +kernel
theorem dX4_first_48 : decode cX4_first 48 = .ok (.getfield 12, 3) := by decide +kernel
theorem dX4_first_51 : decode cX4_first 51 = .ok (.iload_n 3, 1) := by decide +kernel
theorem dX4_first_52 : decode cX4_first 52 = .ok (.invokevirtual 134, 3) := by decide +kernel
theorem dX4_first_55 : decode cX4_first 55 = .ok (.istore 4, 2) := by decide +kernel
theorem dX4_first_57 : decode cX4_first 57 = .ok (.iload_n 2, 1) := by decide +kernel
theorem dX4_first_58 : decode cX4_first 58 = .ok (.iconst 1, 1) := by decide +kernel
theorem dX4_first_59 : decode cX4_first 59 = .ok (.if_icmp .ne 8, 3) := by decide +kernel
theorem dX4_first_62 : decode cX4_first 62 = .ok (.iload 4, 2) := by decide +kernel
theorem dX4_first_64 : decode cX4_first 64 = .ok (.goto 20, 3) := by decide +kernel
theorem dX4_first_67 : decode cX4_first 67 = .ok (.aload_n 0, 1) := by decide +kernel
theorem dX4_first_68 : decode cX4_first 68 = .ok (.getfield 12, 3) := by decide +kernel
theorem dX4_first_71 : decode cX4_first 71 = .ok (.getfield 96, 3) := by decide +kernel
theorem dX4_first_74 : decode cX4_first 74 = .ok (.iload 4, 2) := by decide +kernel
theorem dX4_first_76 : decode cX4_first 76 = .ok (.iload 4, 2) := by decide +kernel
theorem dX4_first_78 : decode cX4_first 78 = .ok (.iconst 1, 1) := by decide +kernel
theorem dX4_first_79 : decode cX4_first 79 = .ok (.iadd, 1) := by decide +kernel
theorem dX4_first_80 : decode cX4_first 80 = .ok (.iload_n 3, 1) := by decide +kernel
theorem dX4_first_81 : decode cX4_first 81 = .ok (.invokevirtual 112, 3) := by decide +kernel
theorem dX4_first_84 : decode cX4_first 84 = .ok (.ireturn, 1) := by decide +kernel
set_option maxRecDepth 20000 in
theorem ggX4_sound_X4_pairRefusal : GoodIn wsX4_sound wsX4_pairRefusal := goodIn_r _ [7, 1, 8, 9, 10, 11, 12, 13, 14, 6, 15, 53, 54, 55, 56, 57, 58, 59, 60, 61, 62, 63, 64] (by decide +kernel) (by decide +kernel)
set_option maxRecDepth 20000 in
theorem gX4_sound_X4_pairRefusal : GoodIn wsX4_sound (wsV RX4 137 RX4 yX4_pairRefusal wsX4_pairRefusal) := goodIn_app (goodIn_of _ (by decide +kernel)) ggX4_sound_X4_pairRefusal
set_option maxRecDepth 20000 in
theorem ggX4_sound_X3_soundPath : GoodIn wsX4_sound wsX3_soundPath := goodIn_r _ [19, 20, 21, 22, 23, 24, 25, 26, 27, 28, 29, 30, 31, 32, 33, 34, 6, 35, 36, 37, 38, 39, 40, 41, 42, 43, 44, 45, 46, 47, 48, 49, 50, 51, 52, 57, 58, 59, 60, 61, 62, 63, 64, 65, 66, 67] (by decide +kernel) (by decide +kernel)
set_option maxRecDepth 20000 in
theorem gX4_sound_X3_soundPath : GoodIn wsX4_sound (wsV RX4 140 RX3 yX3_soundPath wsX3_soundPath) := goodIn_app (goodIn_of _ (by decide +kernel)) ggX4_sound_X3_soundPath
theorem dX4_sound_0 : decode cX4_sound 0 = .ok (.aload_n 0, 1) := by decide +kernel
theorem dX4_sound_1 : decode cX4_sound 1 = .ok (.iload_n 1, 1) := by decide +kernel
theorem dX4_sound_2 : decode cX4_sound 2 = .ok (.iload_n 2, 1) := by decide +kernel
theorem dX4_sound_3 : decode cX4_sound 3 = .ok (.invokevirtual 137, 3) := by decide +kernel
theorem dX4_sound_6 : decode cX4_sound 6 = .ok (.istore_n 3, 1) := by decide +kernel
theorem dX4_sound_7 : decode cX4_sound 7 = .ok (.iload_n 3, 1) := by decide +kernel
theorem dX4_sound_8 : decode cX4_sound 8 = .ok (.ifCond .eq 5, 3) := by decide +kernel
theorem dX4_sound_11 : decode cX4_sound 11 = .ok (.iload_n 3, 1) := by decide +kernel
theorem dX4_sound_12 : decode cX4_sound 12 = .ok (.ireturn, 1) := by decide +kernel
theorem dX4_sound_13 : decode cX4_sound 13 = .ok (.aload_n 0, 1) := by decide +kernel
theorem dX4_sound_14 : decode cX4_sound 14 = .ok (.getfield 12, 3) := by decide +kernel
theorem dX4_sound_17 : decode cX4_sound 17 = .ok (.getfield 86, 3) := by decide +kernel
theorem dX4_sound_20 : decode cX4_sound 20 = .ok (.iconst 1, 1) := by decide +kernel
theorem dX4_sound_21 : decode cX4_sound 21 = .ok (.iadd, 1) := by decide +kernel
theorem dX4_sound_22 : decode cX4_sound 22 = .ok (.sipush 9999, 3) := by decide +kernel
theorem dX4_sound_25 : decode cX4_sound 25 = .ok (.if_icmp .le 6, 3) := by decide +kernel
theorem dX4_sound_28 : decode cX4_sound 28 = .ok (.bipush (-4), 2) := by decide +kernel
theorem dX4_sound_30 : decode cX4_sound 30 = .ok (.ireturn, 1) := by decide +kernel
theorem dX4_sound_31 : decode cX4_sound 31 = .ok (.aload_n 0, 1) := by decide +kernel
theorem dX4_sound_32 : decode cX4_sound 32 = .ok (.getfield 12, 3) := by decide +kernel
theorem dX4_sound_35 : decode cX4_sound 35 = .ok (.iload_n 1, 1) := by decide +kernel
theorem dX4_sound_36 : decode cX4_sound 36 = .ok (.iload_n 2, 1) := by decide +kernel
theorem dX4_sound_37 : decode cX4_sound 37 = .ok (.invokevirtual 140, 3) := by decide +kernel
theorem dX4_sound_40 : decode cX4_sound 40 = .ok (.ireturn, 1) := by decide +kernel
set_option maxRecDepth 20000 in
theorem ggX4_apart_X4_pairRefusal : GoodIn wsX4_apart wsX4_pairRefusal := goodIn_r _ [10, 3, 11, 12, 13, 14, 15, 16, 17, 9, 18, 38, 39, 40, 41, 42, 43, 44, 45, 46, 47, 48, 49] (by decide +kernel) (by decide +kernel)
set_option maxRecDepth 20000 in
theorem gX4_apart_X4_pairRefusal : GoodIn wsX4_apart (wsV RX4 137 RX4 yX4_pairRefusal wsX4_pairRefusal) := goodIn_app (goodIn_of _ (by decide +kernel)) ggX4_apart_X4_pairRefusal
set_option maxRecDepth 20000 in
theorem ggX4_apart_X4_within : GoodIn wsX4_apart wsX4_within := goodIn_r _ [18] (by decide +kernel) (by decide +kernel)
set_option maxRecDepth 20000 in
theorem gX4_apart_X4_within : GoodIn wsX4_apart (va_wsS RX4 30 yX4_within wsX4_within) := goodIn_app (goodIn_of _ (by decide +kernel)) ggX4_apart_X4_within
set_option maxRecDepth 20000 in
theorem ggX4_apart_X0_hasBoth : GoodIn wsX4_apart wsX0_hasBoth := goodIn_r _ [24, 25, 26, 27, 28, 23, 29, 50, 51] (by decide +kernel) (by decide +kernel)
set_option maxRecDepth 20000 in
theorem gX4_apart_X0_hasBoth : GoodIn wsX4_apart (wsV RX4 143 RX0 yX0_hasBoth wsX0_hasBoth) := goodIn_app (goodIn_of _ (by decide +kernel)) ggX4_apart_X0_hasBoth
set_option maxRecDepth 20000 in
theorem ggX4_apart_X0_low : GoodIn wsX4_apart wsX0_low := goodIn_r _ [33, 25, 27, 28, 23, 29, 50, 51] (by decide +kernel) (by decide +kernel)
set_option maxRecDepth 20000 in
theorem gX4_apart_X0_low : GoodIn wsX4_apart (wsV RX4 148 RX0 yX0_low wsX0_low) := goodIn_app (goodIn_of _ (by decide +kernel)) ggX4_apart_X0_low
set_option maxRecDepth 20000 in
theorem ggX4_apart_X0_high : GoodIn wsX4_apart wsX0_high := goodIn_r _ [37, 25, 27, 28, 23, 29, 50, 51] (by decide +kernel) (by decide +kernel)
set_option maxRecDepth 20000 in
theorem gX4_apart_X0_high : GoodIn wsX4_apart (wsV RX4 151 RX0 yX0_high wsX0_high) := goodIn_app (goodIn_of _ (by decide +kernel)) ggX4_apart_X0_high
theorem dX4_apart_0 : decode cX4_apart 0 = .ok (.aload_n 0, 1) := by decide +kernel
theorem dX4_apart_1 : decode cX4_apart 1 = .ok (.iload_n 1, 1) := by decide +kernel
theorem dX4_apart_2 : decode cX4_apart 2 = .ok (.iload_n 2, 1) := by decide +kernel
theorem dX4_apart_3 : decode cX4_apart 3 = .ok (.invokevirtual 137, 3) := by decide +kernel
theorem dX4_apart_6 : decode cX4_apart 6 = .ok (.istore 4, 2) := by decide +kernel
theorem dX4_apart_8 : decode cX4_apart 8 = .ok (.iload 4, 2) := by decide +kernel
theorem dX4_apart_10 : decode cX4_apart 10 = .ok (.ifCond .eq 9, 3) := by decide +kernel
theorem dX4_apart_13 : decode cX4_apart 13 = .ok (.ldc 120, 2) := by decide +kernel
theorem dX4_apart_15 : decode cX4_apart 15 = .ok (.iload 4, 2) := by decide +kernel
theorem dX4_apart_17 : decode cX4_apart 17 = .ok (.iadd, 1) := by decide +kernel
theorem dX4_apart_18 : decode cX4_apart 18 = .ok (.ireturn, 1) := by decide +kernel
theorem dX4_apart_19 : decode cX4_apart 19 = .ok (.iload_n 3, 1) := by decide +kernel
theorem dX4_apart_20 : decode cX4_apart 20 = .ok (.iconst 0, 1) := by decide +kernel
theorem dX4_apart_21 : decode cX4_apart 21 = .ok (.iconst 1, 1) := by decide +kernel
theorem dX4_apart_22 : decode cX4_apart 22 = .ok (.invokestatic 30, 3) := by decide +kernel
theorem dX4_apart_25 : decode cX4_apart 25 = .ok (.ifCond .ne 6, 3) := by decide +kernel
theorem dX4_apart_28 : decode cX4_apart 28 = .ok (.ldc 66, 2) := by decide +kernel
theorem dX4_apart_30 : decode cX4_apart 30 = .ok (.ireturn, 1) := by decide +kernel
theorem dX4_apart_31 : decode cX4_apart 31 = .ok (.aload_n 0, 1) := by decide +kernel
theorem dX4_apart_32 : decode cX4_apart 32 = .ok (.getfield 12, 3) := by decide +kernel
theorem dX4_apart_35 : decode cX4_apart 35 = .ok (.getfield 74, 3) := by decide +kernel
theorem dX4_apart_38 : decode cX4_apart 38 = .ok (.iload_n 1, 1) := by decide +kernel
theorem dX4_apart_39 : decode cX4_apart 39 = .ok (.iload_n 2, 1) := by decide +kernel
theorem dX4_apart_40 : decode cX4_apart 40 = .ok (.invokevirtual 143, 3) := by decide +kernel
theorem dX4_apart_43 : decode cX4_apart 43 = .ok (.ifCond .ne 6, 3) := by decide +kernel
theorem dX4_apart_46 : decode cX4_apart 46 = .ok (.ldc 147, 2) := by decide +kernel
theorem dX4_apart_48 : decode cX4_apart 48 = .ok (.ireturn, 1) := by decide +kernel
theorem dX4_apart_49 : decode cX4_apart 49 = .ok (.iload_n 3, 1) := by decide +kernel
theorem dX4_apart_50 : decode cX4_apart 50 = .ok (.ifCond .ne 18, 3) := by decide +kernel
theorem dX4_apart_53 : decode cX4_apart 53 = .ok (.aload_n 0, 1) := by decide +kernel
theorem dX4_apart_54 : decode cX4_apart 54 = .ok (.getfield 12, 3) := by decide +kernel
theorem dX4_apart_57 : decode cX4_apart 57 = .ok (.getfield 74, 3) := by decide +kernel
theorem dX4_apart_60 : decode cX4_apart 60 = .ok (.iload_n 1, 1) := by decide +kernel
theorem dX4_apart_61 : decode cX4_apart 61 = .ok (.iload_n 2, 1) := by decide +kernel
theorem dX4_apart_62 : decode cX4_apart 62 = .ok (.invokevirtual 148, 3) := by decide +kernel
theorem dX4_apart_65 : decode cX4_apart 65 = .ok (.goto 15, 3) := by decide +kernel
theorem dX4_apart_68 : decode cX4_apart 68 = .ok (.aload_n 0, 1) := by decide +kernel
theorem dX4_apart_69 : decode cX4_apart 69 = .ok (.getfield 12, 3) := by decide +kernel
theorem dX4_apart_72 : decode cX4_apart 72 = .ok (.getfield 74, 3) := by decide +kernel
theorem dX4_apart_75 : decode cX4_apart 75 = .ok (.iload_n 1, 1) := by decide +kernel
theorem dX4_apart_76 : decode cX4_apart 76 = .ok (.iload_n 2, 1) := by decide +kernel
theorem dX4_apart_77 : decode cX4_apart 77 = .ok (.invokevirtual 151, 3) := by decide +kernel
theorem dX4_apart_80 : decode cX4_apart 80 = .ok (.ireturn, 1) := by decide +kernel
set_option maxRecDepth 20000 in
theorem ggX4_tight_X3_hasNode : GoodIn wsX4_tight wsX3_hasNode := goodIn_r _ [10, 11, 12, 13, 14, 42, 43, 44, 45, 46, 47, 48, 49] (by decide +kernel) (by decide +kernel)
set_option maxRecDepth 20000 in
theorem gX4_tight_X3_hasNode : GoodIn wsX4_tight (wsV RX4 62 RX3 yX3_hasNode wsX3_hasNode) := goodIn_app (goodIn_of _ (by decide +kernel)) ggX4_tight_X3_hasNode
set_option maxRecDepth 20000 in
theorem ggX4_tight_X0_tightest : GoodIn wsX4_tight wsX0_tightest := goodIn_r _ [19, 20, 21, 22, 23, 24, 25, 26, 27, 28, 18, 29, 30, 31, 32, 33, 34, 35, 36, 37, 50, 51] (by decide +kernel) (by decide +kernel)
set_option maxRecDepth 20000 in
theorem gX4_tight_X0_tightest : GoodIn wsX4_tight (wsV RX4 154 RX0 yX0_tightest wsX0_tightest) := goodIn_app (goodIn_of _ (by decide +kernel)) ggX4_tight_X0_tightest
theorem dX4_tight_0 : decode cX4_tight 0 = .ok (.aload_n 0, 1) := by decide +kernel
theorem dX4_tight_1 : decode cX4_tight 1 = .ok (.getfield 12, 3) := by decide +kernel
theorem dX4_tight_4 : decode cX4_tight 4 = .ok (.iload_n 1, 1) := by decide +kernel
theorem dX4_tight_5 : decode cX4_tight 5 = .ok (.invokevirtual 62, 3) := by decide +kernel
theorem dX4_tight_8 : decode cX4_tight 8 = .ok (.ifCond .eq 14, 3) := by decide +kernel
theorem dX4_tight_11 : decode cX4_tight 11 = .ok (.aload_n 0, 1) := by decide +kernel
theorem dX4_tight_12 : decode cX4_tight 12 = .ok (.getfield 12, 3) := by decide +kernel
theorem dX4_tight_15 : decode cX4_tight 15 = .ok (.iload_n 2, 1) := by decide +kernel
theorem dX4_tight_16 : decode cX4_tight 16 = .ok (.invokevirtual 62, 3) := by decide +kernel
theorem dX4_tight_19 : decode cX4_tight 19 = .ok (.ifCond .ne 6, 3) := by decide +kernel
theorem dX4_tight_22 : decode cX4_tight 22 = .ok (.ldc 65, 2) := by decide +kernel
theorem dX4_tight_24 : decode cX4_tight 24 = .ok (.ireturn, 1) := by decide +kernel
theorem dX4_tight_25 : decode cX4_tight 25 = .ok (.aload_n 0, 1) := by decide +kernel
theorem dX4_tight_26 : decode cX4_tight 26 = .ok (.getfield 12, 3) := by decide +kernel
theorem dX4_tight_29 : decode cX4_tight 29 = .ok (.getfield 74, 3) := by decide +kernel
theorem dX4_tight_32 : decode cX4_tight 32 = .ok (.iload_n 1, 1) := by decide +kernel
theorem dX4_tight_33 : decode cX4_tight 33 = .ok (.iload_n 2, 1) := by decide +kernel
theorem dX4_tight_34 : decode cX4_tight 34 = .ok (.invokevirtual 154, 3) := by decide +kernel
theorem dX4_tight_37 : decode cX4_tight 37 = .ok (.istore_n 3, 1) := by decide +kernel
theorem dX4_tight_38 : decode cX4_tight 38 = .ok (.iload_n 3, 1) := by decide +kernel
theorem dX4_tight_39 : decode cX4_tight 39 = .ok (.ldc 157, 2) := by decide +kernel
theorem dX4_tight_41 : decode cX4_tight 41 = .ok (.if_icmp .ne 8, 3) := by decide +kernel
theorem dX4_tight_44 : decode cX4_tight 44 = .ok (.ldc 147, 2) := by decide +kernel
theorem dX4_tight_46 : decode cX4_tight 46 = .ok (.goto 4, 3) := by decide +kernel
theorem dX4_tight_49 : decode cX4_tight 49 = .ok (.iload_n 3, 1) := by decide +kernel
theorem dX4_tight_50 : decode cX4_tight 50 = .ok (.ireturn, 1) := by decide +kernel
set_option maxRecDepth 20000 in
theorem ggX4_truth_X4_tookRefusal : GoodIn wsX4_truth wsX4_tookRefusal := goodIn_r _ [13, 14, 15, 16, 12, 17, 3, 18, 19, 20, 21, 22, 23, 24, 25, 26, 27, 28, 29, 85, 86, 87, 88, 89, 90, 91, 92, 93, 94, 95, 96] (by decide +kernel) (by decide +kernel)
set_option maxRecDepth 20000 in
theorem gX4_truth_X4_tookRefusal : GoodIn wsX4_truth (wsV RX4 116 RX4 yX4_tookRefusal wsX4_tookRefusal) := goodIn_app (goodIn_of _ (by decide +kernel)) ggX4_truth_X4_tookRefusal
set_option maxRecDepth 20000 in
theorem ggX4_truth_X4_within : GoodIn wsX4_truth wsX4_within := goodIn_r _ [25] (by decide +kernel) (by decide +kernel)
set_option maxRecDepth 20000 in
theorem gX4_truth_X4_within : GoodIn wsX4_truth (va_wsS RX4 30 yX4_within wsX4_within) := goodIn_app (goodIn_of _ (by decide +kernel)) ggX4_truth_X4_within
set_option maxRecDepth 20000 in
theorem ggX4_truth_X2_hasTook : GoodIn wsX4_truth wsX2_hasTook := goodIn_r _ [34, 35, 36, 37, 33, 38, 39, 40, 41, 42, 97, 98] (by decide +kernel) (by decide +kernel)
set_option maxRecDepth 20000 in
theorem gX4_truth_X2_hasTook : GoodIn wsX4_truth (wsV RX4 121 RX2 yX2_hasTook wsX2_hasTook) := goodIn_app (goodIn_of _ (by decide +kernel)) ggX4_truth_X2_hasTook
set_option maxRecDepth 20000 in
theorem ggX4_truth_X0_tightest : GoodIn wsX4_truth wsX0_tightest := goodIn_r _ [47, 48, 49, 50, 51, 52, 53, 54, 55, 56, 46, 57, 58, 59, 60, 61, 62, 63, 64, 65, 99, 100] (by decide +kernel) (by decide +kernel)
set_option maxRecDepth 20000 in
theorem gX4_truth_X0_tightest : GoodIn wsX4_truth (wsV RX4 154 RX0 yX0_tightest wsX0_tightest) := goodIn_app (goodIn_of _ (by decide +kernel)) ggX4_truth_X0_tightest
set_option maxRecDepth 20000 in
theorem ggX4_truth_X2_countOf : GoodIn wsX4_truth wsX2_countOf := goodIn_r _ [38, 39, 40, 41, 33, 42, 97, 98] (by decide +kernel) (by decide +kernel)
set_option maxRecDepth 20000 in
theorem gX4_truth_X2_countOf : GoodIn wsX4_truth (wsV RX4 100 RX2 yX2_countOf wsX2_countOf) := goodIn_app (goodIn_of _ (by decide +kernel)) ggX4_truth_X2_countOf
set_option maxRecDepth 20000 in
theorem ggX4_truth_X2_tookUpper : GoodIn wsX4_truth wsX2_tookUpper := goodIn_r _ [70, 71, 72, 73, 33, 74, 75, 40, 41, 42, 97, 98] (by decide +kernel) (by decide +kernel)
set_option maxRecDepth 20000 in
theorem gX4_truth_X2_tookUpper : GoodIn wsX4_truth (wsV RX4 125 RX2 yX2_tookUpper wsX2_tookUpper) := goodIn_app (goodIn_of _ (by decide +kernel)) ggX4_truth_X2_tookUpper
set_option maxRecDepth 20000 in
theorem ggX4_truth_X4_fractionPart : GoodIn wsX4_truth wsX4_fractionPart := goodIn_r _ [78, 79, 80, 12, 81, 82, 83, 84] (by decide +kernel) (by decide +kernel)
set_option maxRecDepth 20000 in
theorem gX4_truth_X4_fractionPart : GoodIn wsX4_truth (va_wsS RX4 128 yX4_fractionPart wsX4_fractionPart) := goodIn_app (goodIn_of _ (by decide +kernel)) ggX4_truth_X4_fractionPart
theorem dX4_truth_0 : decode cX4_truth 0 = .ok (.aload_n 0, 1) := by decide +kernel
theorem dX4_truth_1 : decode cX4_truth 1 = .ok (.iload_n 1, 1) := by decide +kernel
theorem dX4_truth_2 : decode cX4_truth 2 = .ok (.iload_n 2, 1) := by decide +kernel
theorem dX4_truth_3 : decode cX4_truth 3 = .ok (.iload_n 3, 1) := by decide +kernel
theorem dX4_truth_4 : decode cX4_truth 4 = .ok (.iload 5, 2) := by decide +kernel
theorem dX4_truth_6 : decode cX4_truth 6 = .ok (.invokevirtual 116, 3) := by decide +kernel
theorem dX4_truth_9 : decode cX4_truth 9 = .ok (.istore 6, 2) := by decide +kernel
theorem dX4_truth_11 : decode cX4_truth 11 = .ok (.iload 6, 2) := by decide +kernel
theorem dX4_truth_13 : decode cX4_truth 13 = .ok (.ifCond .eq 9, 3) := by decide +kernel
theorem dX4_truth_16 : decode cX4_truth 16 = .ok (.ldc 120, 2) := by decide +kernel
theorem dX4_truth_18 : decode cX4_truth 18 = .ok (.iload 6, 2) := by decide +kernel
theorem dX4_truth_20 : decode cX4_truth 20 = .ok (.iadd, 1) := by decide +kernel
theorem dX4_truth_21 : decode cX4_truth 21 = .ok (.ireturn, 1) := by decide +kernel
theorem dX4_truth_22 : decode cX4_truth 22 = .ok (.iload 4, 2) := by decide +kernel
theorem dX4_truth_24 : decode cX4_truth 24 = .ok (.iconst 0, 1) := by decide +kernel
theorem dX4_truth_25 : decode cX4_truth 25 = .ok (.iconst 1, 1) := by decide +kernel
theorem dX4_truth_26 : decode cX4_truth 26 = .ok (.invokestatic 30, 3) := by decide +kernel
theorem dX4_truth_29 : decode cX4_truth 29 = .ok (.ifCond .ne 6, 3) := by decide +kernel
theorem dX4_truth_32 : decode cX4_truth 32 = .ok (.ldc 66, 2) := by decide +kernel
theorem dX4_truth_34 : decode cX4_truth 34 = .ok (.ireturn, 1) := by decide +kernel
theorem dX4_truth_35 : decode cX4_truth 35 = .ok (.aload_n 0, 1) := by decide +kernel
theorem dX4_truth_36 : decode cX4_truth 36 = .ok (.getfield 12, 3) := by decide +kernel
theorem dX4_truth_39 : decode cX4_truth 39 = .ok (.getfield 96, 3) := by decide +kernel
theorem dX4_truth_42 : decode cX4_truth 42 = .ok (.iload_n 1, 1) := by decide +kernel
theorem dX4_truth_43 : decode cX4_truth 43 = .ok (.iload_n 2, 1) := by decide +kernel
theorem dX4_truth_44 : decode cX4_truth 44 = .ok (.iload_n 3, 1) := by decide +kernel
theorem dX4_truth_45 : decode cX4_truth 45 = .ok (.invokevirtual 121, 3) := by decide +kernel
theorem dX4_truth_48 : decode cX4_truth 48 = .ok (.ifCond .ne 6, 3) := by decide +kernel
theorem dX4_truth_51 : decode cX4_truth 51 = .ok (.ldc 124, 2) := by decide +kernel
theorem dX4_truth_53 : decode cX4_truth 53 = .ok (.ireturn, 1) := by decide +kernel
theorem dX4_truth_54 : decode cX4_truth 54 = .ok (.iload 4, 2) := by decide +kernel
theorem dX4_truth_56 : decode cX4_truth 56 = .ok (.ifCond .ne 18, 3) := by decide +kernel
theorem dX4_truth_59 : decode cX4_truth 59 = .ok (.aload_n 0, 1) := by decide +kernel
theorem dX4_truth_60 : decode cX4_truth 60 = .ok (.getfield 12, 3) := by decide +kernel
theorem dX4_truth_63 : decode cX4_truth 63 = .ok (.getfield 74, 3) := by decide +kernel
theorem dX4_truth_66 : decode cX4_truth 66 = .ok (.iload_n 2, 1) := by decide +kernel
theorem dX4_truth_67 : decode cX4_truth 67 = .ok (.iload_n 1, 1) := by decide +kernel
theorem dX4_truth_68 : decode cX4_truth 68 = .ok (.invokevirtual 154, 3) := by decide +kernel
theorem dX4_truth_71 : decode cX4_truth 71 = .ok (.goto 15, 3) := by decide +kernel
theorem dX4_truth_74 : decode cX4_truth 74 = .ok (.aload_n 0, 1) := by decide +kernel
theorem dX4_truth_75 : decode cX4_truth 75 = .ok (.getfield 12, 3) := by decide +kernel
theorem dX4_truth_78 : decode cX4_truth 78 = .ok (.getfield 74, 3) := by decide +kernel
theorem dX4_truth_81 : decode cX4_truth 81 = .ok (.iload_n 1, 1) := by decide +kernel
theorem dX4_truth_82 : decode cX4_truth 82 = .ok (.iload_n 2, 1) := by decide +kernel
theorem dX4_truth_83 : decode cX4_truth 83 = .ok (.invokevirtual 154, 3) := by decide +kernel
theorem dX4_truth_86 : decode cX4_truth 86 = .ok (.istore 7, 2) := by decide +kernel
theorem dX4_truth_88 : decode cX4_truth 88 = .ok (.iload 7, 2) := by decide +kernel
theorem dX4_truth_90 : decode cX4_truth 90 = .ok (.ldc 157, 2) := by decide +kernel
theorem dX4_truth_92 : decode cX4_truth 92 = .ok (.if_icmp .ne 6, 3) := by decide +kernel
theorem dX4_truth_95 : decode cX4_truth 95 = .ok (.ldc 147, 2) := by decide +kernel
theorem dX4_truth_97 : decode cX4_truth 97 = .ok (.ireturn, 1) := by decide +kernel
theorem dX4_truth_98 : decode cX4_truth 98 = .ok (.aload_n 0, 1) := by decide +kernel
theorem dX4_truth_99 : decode cX4_truth 99 = .ok (.getfield 12, 3) := by decide +kernel
theorem dX4_truth_102 : decode cX4_truth 102 = .ok (.getfield 96, 3) := by decide +kernel
theorem dX4_truth_105 : decode cX4_truth 105 = .ok (.iload_n 1, 1) := by decide +kernel
theorem dX4_truth_106 : decode cX4_truth 106 = .ok (.iload_n 3, 1) := by decide +kernel
theorem dX4_truth_107 : decode cX4_truth 107 = .ok (.invokevirtual 100, 3) := by decide +kernel
theorem dX4_truth_110 : decode cX4_truth 110 = .ok (.istore 8, 2) := by decide +kernel
theorem dX4_truth_112 : decode cX4_truth 112 = .ok (.iload 4, 2) := by decide +kernel
theorem dX4_truth_114 : decode cX4_truth 114 = .ok (.ifCond .ne 11, 3) := by decide +kernel
theorem dX4_truth_117 : decode cX4_truth 117 = .ok (.iload 7, 2) := by decide +kernel
theorem dX4_truth_119 : decode cX4_truth 119 = .ok (.iload 8, 2) := by decide +kernel
theorem dX4_truth_121 : decode cX4_truth 121 = .ok (.imul, 1) := by decide +kernel
theorem dX4_truth_122 : decode cX4_truth 122 = .ok (.goto 9, 3) := by decide +kernel
theorem dX4_truth_125 : decode cX4_truth 125 = .ok (.iload 7, 2) := by decide +kernel
theorem dX4_truth_127 : decode cX4_truth 127 = .ok (.ineg, 1) := by decide +kernel
theorem dX4_truth_128 : decode cX4_truth 128 = .ok (.iload 8, 2) := by decide +kernel
theorem dX4_truth_130 : decode cX4_truth 130 = .ok (.imul, 1) := by decide +kernel
theorem dX4_truth_131 : decode cX4_truth 131 = .ok (.istore 9, 2) := by decide +kernel
theorem dX4_truth_133 : decode cX4_truth 133 = .ok (.aload_n 0, 1) := by decide +kernel
theorem dX4_truth_134 : decode cX4_truth 134 = .ok (.getfield 12, 3) := by decide +kernel
theorem dX4_truth_137 : decode cX4_truth 137 = .ok (.getfield 96, 3) := by decide +kernel
theorem dX4_truth_140 : decode cX4_truth 140 = .ok (.iload_n 1, 1) := by decide +kernel
theorem dX4_truth_141 : decode cX4_truth 141 = .ok (.iload_n 2, 1) := by decide +kernel
theorem dX4_truth_142 : decode cX4_truth 142 = .ok (.iload_n 3, 1) := by decide +kernel
theorem dX4_truth_143 : decode cX4_truth 143 = .ok (.invokevirtual 125, 3) := by decide +kernel
theorem dX4_truth_146 : decode cX4_truth 146 = .ok (.iload 9, 2) := by decide +kernel
theorem dX4_truth_148 : decode cX4_truth 148 = .ok (.iadd, 1) := by decide +kernel
theorem dX4_truth_149 : decode cX4_truth 149 = .ok (.iload 8, 2) := by decide +kernel
theorem dX4_truth_151 : decode cX4_truth 151 = .ok (.iload 5, 2) := by decide +kernel
theorem dX4_truth_153 : decode cX4_truth 153 = .ok (.invokestatic 128, 3) := by decide +kernel
theorem dX4_truth_156 : decode cX4_truth 156 = .ok (.ireturn, 1) := by decide +kernel
set_option maxRecDepth 20000 in
theorem ggX4_image_X4_within : GoodIn wsX4_image wsX4_within := goodIn_r _ [6] (by decide +kernel) (by decide +kernel)
set_option maxRecDepth 20000 in
theorem gX4_image_X4_within : GoodIn wsX4_image (va_wsS RX4 30 yX4_within wsX4_within) := goodIn_app (goodIn_of _ (by decide +kernel)) ggX4_image_X4_within
set_option maxRecDepth 20000 in
theorem ggX4_image_X4_imageAt : GoodIn wsX4_image wsX4_imageAt := goodIn_r _ [10, 11, 12, 52, 53, 54, 55] (by decide +kernel) (by decide +kernel)
set_option maxRecDepth 20000 in
theorem gX4_image_X4_imageAt : GoodIn wsX4_image (wsV RX4 158 RX4 yX4_imageAt wsX4_imageAt) := goodIn_app (goodIn_of _ (by decide +kernel)) ggX4_image_X4_imageAt
set_option maxRecDepth 20000 in
theorem ggX4_image_X3_copyFrom : GoodIn wsX4_image wsX3_copyFrom := goodIn_r _ [17, 18, 19, 20, 21, 22, 23, 24, 25, 26, 27, 28, 29, 30, 31, 32, 33, 34, 35, 36, 37, 38, 39, 40, 41, 42, 43, 44, 45, 46, 47, 48, 49, 50, 51, 56, 57, 58, 59, 60, 61, 62, 63, 64, 65, 66, 67, 68] (by decide +kernel) (by decide +kernel)
set_option maxRecDepth 20000 in
theorem gX4_image_X3_copyFrom : GoodIn wsX4_image (wsV RX4 162 RX3 yX3_copyFrom wsX3_copyFrom) := goodIn_app (goodIn_of _ (by decide +kernel)) ggX4_image_X3_copyFrom
theorem dX4_image_0 : decode cX4_image 0 = .ok (.iload_n 1, 1) := by decide +kernel
theorem dX4_image_1 : decode cX4_image 1 = .ok (.iconst 0, 1) := by decide +kernel
theorem dX4_image_2 : decode cX4_image 2 = .ok (.iconst 1, 1) := by decide +kernel
theorem dX4_image_3 : decode cX4_image 3 = .ok (.invokestatic 30, 3) := by decide +kernel
theorem dX4_image_6 : decode cX4_image 6 = .ok (.ifCond .ne 6, 3) := by decide +kernel
theorem dX4_image_9 : decode cX4_image 9 = .ok (.bipush (-2), 2) := by decide +kernel
theorem dX4_image_11 : decode cX4_image 11 = .ok (.ireturn, 1) := by decide +kernel
theorem dX4_image_12 : decode cX4_image 12 = .ok (.aload_n 0, 1) := by decide +kernel
theorem dX4_image_13 : decode cX4_image 13 = .ok (.iload_n 1, 1) := by decide +kernel
theorem dX4_image_14 : decode cX4_image 14 = .ok (.invokevirtual 158, 3) := by decide +kernel
theorem dX4_image_17 : decode cX4_image 17 = .ok (.aload_n 0, 1) := by decide +kernel
theorem dX4_image_18 : decode cX4_image 18 = .ok (.getfield 12, 3) := by decide +kernel
theorem dX4_image_21 : decode cX4_image 21 = .ok (.invokevirtual 162, 3) := by decide +kernel
theorem dX4_image_24 : decode cX4_image 24 = .ok (.aload_n 0, 1) := by decide +kernel
theorem dX4_image_25 : decode cX4_image 25 = .ok (.dup, 1) := by decide +kernel
theorem dX4_image_26 : decode cX4_image 26 = .ok (.getfield 22, 3) := by decide +kernel
theorem dX4_image_29 : decode cX4_image 29 = .ok (.iconst 1, 1) := by decide +kernel
theorem dX4_image_30 : decode cX4_image 30 = .ok (.iload_n 1, 1) := by decide +kernel
theorem dX4_image_31 : decode cX4_image 31 = .ok (.ishl, 1) := by decide +kernel
theorem dX4_image_32 : decode cX4_image 32 = .ok (.ior, 1) := by decide +kernel
theorem dX4_image_33 : decode cX4_image 33 = .ok (.putfield 22, 3) := by decide +kernel
theorem dX4_image_36 : decode cX4_image 36 = .ok (.iconst 1, 1) := by decide +kernel
theorem dX4_image_37 : decode cX4_image 37 = .ok (.ireturn, 1) := by decide +kernel
set_option maxRecDepth 20000 in
theorem ggX4_restore_X4_within : GoodIn wsX4_restore wsX4_within := goodIn_r _ [6] (by decide +kernel) (by decide +kernel)
set_option maxRecDepth 20000 in
theorem gX4_restore_X4_within : GoodIn wsX4_restore (va_wsS RX4 30 yX4_within wsX4_within) := goodIn_app (goodIn_of _ (by decide +kernel)) ggX4_restore_X4_within
set_option maxRecDepth 20000 in
theorem ggX4_restore_X4_imageAt : GoodIn wsX4_restore wsX4_imageAt := goodIn_r _ [10, 11, 12, 52, 53, 54, 55] (by decide +kernel) (by decide +kernel)
set_option maxRecDepth 20000 in
theorem gX4_restore_X4_imageAt : GoodIn wsX4_restore (wsV RX4 158 RX4 yX4_imageAt wsX4_imageAt) := goodIn_app (goodIn_of _ (by decide +kernel)) ggX4_restore_X4_imageAt
set_option maxRecDepth 20000 in
theorem ggX4_restore_X3_copyFrom : GoodIn wsX4_restore wsX3_copyFrom := goodIn_r _ [17, 18, 19, 20, 21, 22, 23, 24, 25, 26, 27, 28, 29, 30, 31, 32, 33, 34, 35, 36, 37, 38, 39, 40, 41, 42, 43, 44, 45, 46, 47, 48, 49, 50, 51, 56, 57, 58, 59, 60, 61, 62, 63, 64, 65, 66, 67, 68] (by decide +kernel) (by decide +kernel)
set_option maxRecDepth 20000 in
theorem gX4_restore_X3_copyFrom : GoodIn wsX4_restore (wsV RX4 162 RX3 yX3_copyFrom wsX3_copyFrom) := goodIn_app (goodIn_of _ (by decide +kernel)) ggX4_restore_X3_copyFrom
theorem dX4_restore_0 : decode cX4_restore 0 = .ok (.iload_n 1, 1) := by decide +kernel
theorem dX4_restore_1 : decode cX4_restore 1 = .ok (.iconst 0, 1) := by decide +kernel
theorem dX4_restore_2 : decode cX4_restore 2 = .ok (.iconst 1, 1) := by decide +kernel
theorem dX4_restore_3 : decode cX4_restore 3 = .ok (.invokestatic 30, 3) := by decide +kernel
theorem dX4_restore_6 : decode cX4_restore 6 = .ok (.ifCond .ne 6, 3) := by decide +kernel
theorem dX4_restore_9 : decode cX4_restore 9 = .ok (.bipush (-2), 2) := by decide +kernel
theorem dX4_restore_11 : decode cX4_restore 11 = .ok (.ireturn, 1) := by decide +kernel
theorem dX4_restore_12 : decode cX4_restore 12 = .ok (.aload_n 0, 1) := by decide +kernel
theorem dX4_restore_13 : decode cX4_restore 13 = .ok (.getfield 22, 3) := by decide +kernel
theorem dX4_restore_16 : decode cX4_restore 16 = .ok (.iconst 1, 1) := by decide +kernel
theorem dX4_restore_17 : decode cX4_restore 17 = .ok (.iload_n 1, 1) := by decide +kernel
theorem dX4_restore_18 : decode cX4_restore 18 = .ok (.ishl, 1) := by decide +kernel
theorem dX4_restore_19 : decode cX4_restore 19 = .ok (.iand, 1) := by decide +kernel
theorem dX4_restore_20 : decode cX4_restore 20 = .ok (.ifCond .ne 6, 3) := by decide +kernel
theorem dX4_restore_23 : decode cX4_restore 23 = .ok (.bipush (-3), 2) := by decide +kernel
theorem dX4_restore_25 : decode cX4_restore 25 = .ok (.ireturn, 1) := by decide +kernel
theorem dX4_restore_26 : decode cX4_restore 26 = .ok (.aload_n 0, 1) := by decide +kernel
theorem dX4_restore_27 : decode cX4_restore 27 = .ok (.getfield 12, 3) := by decide +kernel
theorem dX4_restore_30 : decode cX4_restore 30 = .ok (.aload_n 0, 1) := by decide +kernel
theorem dX4_restore_31 : decode cX4_restore 31 = .ok (.iload_n 1, 1) := by decide +kernel
theorem dX4_restore_32 : decode cX4_restore 32 = .ok (.invokevirtual 158, 3) := by decide +kernel
theorem dX4_restore_35 : decode cX4_restore 35 = .ok (.invokevirtual 162, 3) := by decide +kernel
theorem dX4_restore_38 : decode cX4_restore 38 = .ok (.iconst 1, 1) := by decide +kernel
theorem dX4_restore_39 : decode cX4_restore 39 = .ok (.ireturn, 1) := by decide +kernel
set_option maxRecDepth 20000 in
theorem ggX4_count_X2_blocksSent : GoodIn wsX4_count wsX2_blocksSent := goodIn_r _ [13, 14, 15, 16, 12, 17, 18, 19, 20, 21, 69, 70] (by decide +kernel) (by decide +kernel)
set_option maxRecDepth 20000 in
theorem gX4_count_X2_blocksSent : GoodIn wsX4_count (wsV RX4 166 RX2 yX2_blocksSent wsX2_blocksSent) := goodIn_app (goodIn_of _ (by decide +kernel)) ggX4_count_X2_blocksSent
set_option maxRecDepth 20000 in
theorem ggX4_count_X0_pairs : GoodIn wsX4_count wsX0_pairs := goodIn_r _ [26, 27, 28, 29, 25, 30, 31, 32, 33, 34, 35, 71, 72] (by decide +kernel) (by decide +kernel)
set_option maxRecDepth 20000 in
theorem gX4_count_X0_pairs : GoodIn wsX4_count (wsV RX4 170 RX0 yX0_pairs wsX0_pairs) := goodIn_app (goodIn_of _ (by decide +kernel)) ggX4_count_X0_pairs
set_option maxRecDepth 20000 in
theorem ggX4_count_X4_linkNumber : GoodIn wsX4_count wsX4_linkNumber := goodIn_r _ [40, 1, 41, 42, 43, 44, 45, 46, 47, 48, 39, 49, 50, 51, 52, 53, 54, 55, 56, 57, 58, 59, 60, 61, 62, 63, 64, 65, 66, 67, 68, 73] (by decide +kernel) (by decide +kernel)
set_option maxRecDepth 20000 in
theorem gX4_count_X4_linkNumber : GoodIn wsX4_count (wsV RX4 173 RX4 yX4_linkNumber wsX4_linkNumber) := goodIn_app (goodIn_of _ (by decide +kernel)) ggX4_count_X4_linkNumber
theorem dX4_count_0 : decode cX4_count 0 = .ok (.iload_n 1, 1) := by decide +kernel
theorem dX4_count_1 : decode cX4_count 1 = .ok (.tableswitch 102 0 6 #[43, 51, 59, 67, 75, 86, 97], 43) := by decide +kernel
theorem dX4_count_44 : decode cX4_count 44 = .ok (.aload_n 0, 1) := by decide +kernel
theorem dX4_count_45 : decode cX4_count 45 = .ok (.getfield 12, 3) := by decide +kernel
theorem dX4_count_48 : decode cX4_count 48 = .ok (.getfield 34, 3) := by decide +kernel
theorem dX4_count_51 : decode cX4_count 51 = .ok (.ireturn, 1) := by decide +kernel
theorem dX4_count_52 : decode cX4_count 52 = .ok (.aload_n 0, 1) := by decide +kernel
theorem dX4_count_53 : decode cX4_count 53 = .ok (.getfield 12, 3) := by decide +kernel
theorem dX4_count_56 : decode cX4_count 56 = .ok (.getfield 86, 3) := by decide +kernel
theorem dX4_count_59 : decode cX4_count 59 = .ok (.ireturn, 1) := by decide +kernel
theorem dX4_count_60 : decode cX4_count 60 = .ok (.aload_n 0, 1) := by decide +kernel
theorem dX4_count_61 : decode cX4_count 61 = .ok (.getfield 12, 3) := by decide +kernel
theorem dX4_count_64 : decode cX4_count 64 = .ok (.getfield 67, 3) := by decide +kernel
theorem dX4_count_67 : decode cX4_count 67 = .ok (.ireturn, 1) := by decide +kernel
theorem dX4_count_68 : decode cX4_count 68 = .ok (.aload_n 0, 1) := by decide +kernel
theorem dX4_count_69 : decode cX4_count 69 = .ok (.getfield 12, 3) := by decide +kernel
theorem dX4_count_72 : decode cX4_count 72 = .ok (.getfield 83, 3) := by decide +kernel
theorem dX4_count_75 : decode cX4_count 75 = .ok (.ireturn, 1) := by decide +kernel
theorem dX4_count_76 : decode cX4_count 76 = .ok (.aload_n 0, 1) := by decide +kernel
theorem dX4_count_77 : decode cX4_count 77 = .ok (.getfield 12, 3) := by decide +kernel
theorem dX4_count_80 : decode cX4_count 80 = .ok (.getfield 96, 3) := by decide +kernel
theorem dX4_count_83 : decode cX4_count 83 = .ok (.invokevirtual 166, 3) := by decide +kernel
theorem dX4_count_86 : decode cX4_count 86 = .ok (.ireturn, 1) := by decide +kernel
theorem dX4_count_87 : decode cX4_count 87 = .ok (.aload_n 0, 1) := by decide +kernel
theorem dX4_count_88 : decode cX4_count 88 = .ok (.getfield 12, 3) := by decide +kernel
theorem dX4_count_91 : decode cX4_count 91 = .ok (.getfield 74, 3) := by decide +kernel
theorem dX4_count_94 : decode cX4_count 94 = .ok (.invokevirtual 170, 3) := by decide +kernel
theorem dX4_count_97 : decode cX4_count 97 = .ok (.ireturn, 1) := by decide +kernel
theorem dX4_count_98 : decode cX4_count 98 = .ok (.aload_n 0, 1) := by decide +kernel
theorem dX4_count_99 : decode cX4_count 99 = .ok (.getfield 22, 3) := by decide +kernel
theorem dX4_count_102 : decode cX4_count 102 = .ok (.ireturn, 1) := by decide +kernel
theorem dX4_count_103 : decode cX4_count 103 = .ok (.aload_n 0, 1) := by decide +kernel
theorem dX4_count_104 : decode cX4_count 104 = .ok (.iload_n 1, 1) := by decide +kernel
theorem dX4_count_105 : decode cX4_count 105 = .ok (.invokevirtual 173, 3) := by decide +kernel
theorem dX4_count_108 : decode cX4_count 108 = .ok (.ireturn, 1) := by decide +kernel
set_option maxRecDepth 20000 in
theorem ggX4_linkNumber_X3_hasLink : GoodIn wsX4_linkNumber wsX3_hasLink := goodIn_r _ [7, 8, 9, 10, 11, 23, 24, 25, 26, 27, 28, 29, 30] (by decide +kernel) (by decide +kernel)
set_option maxRecDepth 20000 in
theorem gX4_linkNumber_X3_hasLink : GoodIn wsX4_linkNumber (wsV RX4 37 RX3 yX3_hasLink wsX3_hasLink) := goodIn_app (goodIn_of _ (by decide +kernel)) ggX4_linkNumber_X3_hasLink
set_option maxRecDepth 20000 in
theorem ggX4_linkNumber_X4_within : GoodIn wsX4_linkNumber wsX4_within := goodIn_r _ [11] (by decide +kernel) (by decide +kernel)
set_option maxRecDepth 20000 in
theorem gX4_linkNumber_X4_within : GoodIn wsX4_linkNumber (va_wsS RX4 30 yX4_within wsX4_within) := goodIn_app (goodIn_of _ (by decide +kernel)) ggX4_linkNumber_X4_within
set_option maxRecDepth 20000 in
theorem ggX4_linkNumber_X1_read : GoodIn wsX4_linkNumber wsX1_read := goodIn_r _ [17, 18, 31] (by decide +kernel) (by decide +kernel)
set_option maxRecDepth 20000 in
theorem gX4_linkNumber_X1_read : GoodIn wsX4_linkNumber (wsV RX4 52 RX1 yX1_read wsX1_read) := goodIn_app (goodIn_of _ (by decide +kernel)) ggX4_linkNumber_X1_read
theorem dX4_linkNumber_0 : decode cX4_linkNumber 0 = .ok (.iload_n 1, 1) := by decide +kernel
theorem dX4_linkNumber_1 : decode cX4_linkNumber 1 = .ok (.bipush 10, 2) := by decide +kernel
theorem dX4_linkNumber_3 : decode cX4_linkNumber 3 = .ok (.if_icmp .ge 6, 3) := by decide +kernel
theorem dX4_linkNumber_6 : decode cX4_linkNumber 6 = .ok (.bipush (-2), 2) := by decide +kernel
theorem dX4_linkNumber_8 : decode cX4_linkNumber 8 = .ok (.ireturn, 1) := by decide +kernel
theorem dX4_linkNumber_9 : decode cX4_linkNumber 9 = .ok (.iload_n 1, 1) := by decide +kernel
theorem dX4_linkNumber_10 : decode cX4_linkNumber 10 = .ok (.bipush 10, 2) := by decide +kernel
theorem dX4_linkNumber_12 : decode cX4_linkNumber 12 = .ok (.idiv, 1) := by decide +kernel
theorem dX4_linkNumber_13 : decode cX4_linkNumber 13 = .ok (.iconst 1, 1) := by decide +kernel
theorem dX4_linkNumber_14 : decode cX4_linkNumber 14 = .ok (.isub, 1) := by decide +kernel
theorem dX4_linkNumber_15 : decode cX4_linkNumber 15 = .ok (.istore_n 2, 1) := by decide +kernel
theorem dX4_linkNumber_16 : decode cX4_linkNumber 16 = .ok (.iload_n 1, 1) := by decide +kernel
theorem dX4_linkNumber_17 : decode cX4_linkNumber 17 = .ok (.bipush 10, 2) := by decide +kernel
theorem dX4_linkNumber_19 : decode cX4_linkNumber 19 = .ok (.irem, 1) := by decide +kernel
theorem dX4_linkNumber_20 : decode cX4_linkNumber 20 = .ok (.istore_n 3, 1) := by decide +kernel
theorem dX4_linkNumber_21 : decode cX4_linkNumber 21 = .ok (.aload_n 0, 1) := by decide +kernel
theorem dX4_linkNumber_22 : decode cX4_linkNumber 22 = .ok (.getfield 12, 3) := by decide +kernel
theorem dX4_linkNumber_25 : decode cX4_linkNumber 25 = .ok (.iload_n 2, 1) := by decide +kernel
theorem dX4_linkNumber_26 : decode cX4_linkNumber 26 = .ok (.invokevirtual 37, 3) := by decide +kernel
theorem dX4_linkNumber_29 : decode cX4_linkNumber 29 = .ok (.ifCond .eq 12, 3) := by decide +kernel
theorem dX4_linkNumber_32 : decode cX4_linkNumber 32 = .ok (.iload_n 3, 1) := by decide +kernel
theorem dX4_linkNumber_33 : decode cX4_linkNumber 33 = .ok (.iconst 0, 1) := by decide +kernel
theorem dX4_linkNumber_34 : decode cX4_linkNumber 34 = .ok (.iconst 5, 1) := by decide +kernel
theorem dX4_linkNumber_35 : decode cX4_linkNumber 35 = .ok (.invokestatic 30, 3) := by decide +kernel
theorem dX4_linkNumber_38 : decode cX4_linkNumber 38 = .ok (.ifCond .ne 6, 3) := by decide +kernel
theorem dX4_linkNumber_41 : decode cX4_linkNumber 41 = .ok (.bipush (-2), 2) := by decide +kernel
theorem dX4_linkNumber_43 : decode cX4_linkNumber 43 = .ok (.ireturn, 1) := by decide +kernel
theorem dX4_linkNumber_44 : decode cX4_linkNumber 44 = .ok (.aload_n 0, 1) := by decide +kernel
theorem dX4_linkNumber_45 : decode cX4_linkNumber 45 = .ok (.getfield 12, 3) := by decide +kernel
theorem dX4_linkNumber_48 : decode cX4_linkNumber 48 = .ok (.getfield 48, 3) := by decide +kernel
theorem dX4_linkNumber_51 : decode cX4_linkNumber 51 = .ok (.iload_n 2, 1) := by decide +kernel
theorem dX4_linkNumber_52 : decode cX4_linkNumber 52 = .ok (.iload_n 3, 1) := by decide +kernel
theorem dX4_linkNumber_53 : decode cX4_linkNumber 53 = .ok (.invokevirtual 52, 3) := by decide +kernel
theorem dX4_linkNumber_56 : decode cX4_linkNumber 56 = .ok (.ireturn, 1) := by decide +kernel
theorem dX4_imageAt_0 : decode cX4_imageAt 0 = .ok (.iload_n 1, 1) := by decide +kernel
theorem dX4_imageAt_1 : decode cX4_imageAt 1 = .ok (.ifCond .ne 10, 3) := by decide +kernel
theorem dX4_imageAt_4 : decode cX4_imageAt 4 = .ok (.aload_n 0, 1) := by decide +kernel
theorem dX4_imageAt_5 : decode cX4_imageAt 5 = .ok (.getfield 16, 3) := by decide +kernel
theorem dX4_imageAt_8 : decode cX4_imageAt 8 = .ok (.goto 7, 3) := by decide +kernel
theorem dX4_imageAt_11 : decode cX4_imageAt 11 = .ok (.aload_n 0, 1) := by decide +kernel
theorem dX4_imageAt_12 : decode cX4_imageAt 12 = .ok (.getfield 19, 3) := by decide +kernel
theorem dX4_imageAt_15 : decode cX4_imageAt 15 = .ok (.areturn, 1) := by decide +kernel
set_option maxRecDepth 20000 in
theorem ggX4_pairRefusal_X3_hasNode : GoodIn wsX4_pairRefusal wsX3_hasNode := goodIn_r _ [6, 7, 8, 9, 10, 15, 16, 17, 18, 19, 20, 21, 22] (by decide +kernel) (by decide +kernel)
set_option maxRecDepth 20000 in
theorem gX4_pairRefusal_X3_hasNode : GoodIn wsX4_pairRefusal (wsV RX4 62 RX3 yX3_hasNode wsX3_hasNode) := goodIn_app (goodIn_of _ (by decide +kernel)) ggX4_pairRefusal_X3_hasNode
theorem dX4_pairRefusal_0 : decode cX4_pairRefusal 0 = .ok (.aload_n 0, 1) := by decide +kernel
theorem dX4_pairRefusal_1 : decode cX4_pairRefusal 1 = .ok (.getfield 12, 3) := by decide +kernel
theorem dX4_pairRefusal_4 : decode cX4_pairRefusal 4 = .ok (.iload_n 1, 1) := by decide +kernel
theorem dX4_pairRefusal_5 : decode cX4_pairRefusal 5 = .ok (.invokevirtual 62, 3) := by decide +kernel
theorem dX4_pairRefusal_8 : decode cX4_pairRefusal 8 = .ok (.ifCond .eq 14, 3) := by decide +kernel
theorem dX4_pairRefusal_11 : decode cX4_pairRefusal 11 = .ok (.aload_n 0, 1) := by decide +kernel
theorem dX4_pairRefusal_12 : decode cX4_pairRefusal 12 = .ok (.getfield 12, 3) := by decide +kernel
theorem dX4_pairRefusal_15 : decode cX4_pairRefusal 15 = .ok (.iload_n 2, 1) := by decide +kernel
theorem dX4_pairRefusal_16 : decode cX4_pairRefusal 16 = .ok (.invokevirtual 62, 3) := by decide +kernel
theorem dX4_pairRefusal_19 : decode cX4_pairRefusal 19 = .ok (.ifCond .ne 5, 3) := by decide +kernel
theorem dX4_pairRefusal_22 : decode cX4_pairRefusal 22 = .ok (.iconst (-1), 1) := by decide +kernel
theorem dX4_pairRefusal_23 : decode cX4_pairRefusal 23 = .ok (.ireturn, 1) := by decide +kernel
theorem dX4_pairRefusal_24 : decode cX4_pairRefusal 24 = .ok (.iload_n 2, 1) := by decide +kernel
theorem dX4_pairRefusal_25 : decode cX4_pairRefusal 25 = .ok (.iload_n 1, 1) := by decide +kernel
theorem dX4_pairRefusal_26 : decode cX4_pairRefusal 26 = .ok (.if_icmp .le 7, 3) := by decide +kernel
theorem dX4_pairRefusal_29 : decode cX4_pairRefusal 29 = .ok (.iconst 0, 1) := by decide +kernel
theorem dX4_pairRefusal_30 : decode cX4_pairRefusal 30 = .ok (.goto 5, 3) := by decide +kernel
theorem dX4_pairRefusal_33 : decode cX4_pairRefusal 33 = .ok (.bipush (-2), 2) := by decide +kernel
theorem dX4_pairRefusal_35 : decode cX4_pairRefusal 35 = .ok (.ireturn, 1) := by decide +kernel
set_option maxRecDepth 20000 in
theorem ggX4_tookRefusal_X4_pairRefusal : GoodIn wsX4_tookRefusal wsX4_pairRefusal := goodIn_r _ [5, 6, 7, 8, 9, 10, 11, 12, 13, 4, 14, 19, 20, 21, 22, 23, 24, 25, 26, 27, 28, 29, 30] (by decide +kernel) (by decide +kernel)
set_option maxRecDepth 20000 in
theorem gX4_tookRefusal_X4_pairRefusal : GoodIn wsX4_tookRefusal (wsV RX4 137 RX4 yX4_pairRefusal wsX4_pairRefusal) := goodIn_app (goodIn_of _ (by decide +kernel)) ggX4_tookRefusal_X4_pairRefusal
set_option maxRecDepth 20000 in
theorem ggX4_tookRefusal_X4_isBlock : GoodIn wsX4_tookRefusal wsX4_isBlock := goodIn_r _ [17, 18, 13, 4, 14] (by decide +kernel) (by decide +kernel)
set_option maxRecDepth 20000 in
theorem gX4_tookRefusal_X4_isBlock : GoodIn wsX4_tookRefusal (va_wsS RX4 93 yX4_isBlock wsX4_isBlock) := goodIn_app (goodIn_of _ (by decide +kernel)) ggX4_tookRefusal_X4_isBlock
set_option maxRecDepth 20000 in
theorem ggX4_tookRefusal_X4_within : GoodIn wsX4_tookRefusal wsX4_within := goodIn_r _ [14] (by decide +kernel) (by decide +kernel)
set_option maxRecDepth 20000 in
theorem gX4_tookRefusal_X4_within : GoodIn wsX4_tookRefusal (va_wsS RX4 30 yX4_within wsX4_within) := goodIn_app (goodIn_of _ (by decide +kernel)) ggX4_tookRefusal_X4_within
theorem dX4_tookRefusal_0 : decode cX4_tookRefusal 0 = .ok (.aload_n 0, 1) := by decide +kernel
theorem dX4_tookRefusal_1 : decode cX4_tookRefusal 1 = .ok (.iload_n 1, 1) := by decide +kernel
theorem dX4_tookRefusal_2 : decode cX4_tookRefusal 2 = .ok (.iload_n 2, 1) := by decide +kernel
theorem dX4_tookRefusal_3 : decode cX4_tookRefusal 3 = .ok (.invokevirtual 137, 3) := by decide +kernel
theorem dX4_tookRefusal_6 : decode cX4_tookRefusal 6 = .ok (.istore 5, 2) := by decide +kernel
theorem dX4_tookRefusal_8 : decode cX4_tookRefusal 8 = .ok (.iload 5, 2) := by decide +kernel
theorem dX4_tookRefusal_10 : decode cX4_tookRefusal 10 = .ok (.ifCond .eq 6, 3) := by decide +kernel
theorem dX4_tookRefusal_13 : decode cX4_tookRefusal 13 = .ok (.iload 5, 2) := by decide +kernel
theorem dX4_tookRefusal_15 : decode cX4_tookRefusal 15 = .ok (.ireturn, 1) := by decide +kernel
theorem dX4_tookRefusal_16 : decode cX4_tookRefusal 16 = .ok (.iload_n 3, 1) := by decide +kernel
theorem dX4_tookRefusal_17 : decode cX4_tookRefusal 17 = .ok (.invokestatic 93, 3) := by decide +kernel
theorem dX4_tookRefusal_20 : decode cX4_tookRefusal 20 = .ok (.ifCond .eq 17, 3) := by decide +kernel
theorem dX4_tookRefusal_23 : decode cX4_tookRefusal 23 = .ok (.iload 4, 2) := by decide +kernel
theorem dX4_tookRefusal_25 : decode cX4_tookRefusal 25 = .ok (.iconst 0, 1) := by decide +kernel
theorem dX4_tookRefusal_26 : decode cX4_tookRefusal 26 = .ok (.iconst 1, 1) := by decide +kernel
theorem dX4_tookRefusal_27 : decode cX4_tookRefusal 27 = .ok (.invokestatic 30, 3) := by decide +kernel
theorem dX4_tookRefusal_30 : decode cX4_tookRefusal 30 = .ok (.ifCond .eq 7, 3) := by decide +kernel
theorem dX4_tookRefusal_33 : decode cX4_tookRefusal 33 = .ok (.iconst 0, 1) := by decide +kernel
theorem dX4_tookRefusal_34 : decode cX4_tookRefusal 34 = .ok (.goto 5, 3) := by decide +kernel
theorem dX4_tookRefusal_37 : decode cX4_tookRefusal 37 = .ok (.bipush (-2), 2) := by decide +kernel
theorem dX4_tookRefusal_39 : decode cX4_tookRefusal 39 = .ok (.ireturn, 1) := by decide +kernel
set_option maxRecDepth 20000 in
theorem ggX4_isBlock_X4_within : GoodIn wsX4_isBlock wsX4_within := goodIn_r _ [4] (by decide +kernel) (by decide +kernel)
set_option maxRecDepth 20000 in
theorem gX4_isBlock_X4_within : GoodIn wsX4_isBlock (va_wsS RX4 30 yX4_within wsX4_within) := goodIn_app (goodIn_of _ (by decide +kernel)) ggX4_isBlock_X4_within
theorem dX4_isBlock_0 : decode cX4_isBlock 0 = .ok (.iload_n 0, 1) := by decide +kernel
theorem dX4_isBlock_1 : decode cX4_isBlock 1 = .ok (.iconst 0, 1) := by decide +kernel
theorem dX4_isBlock_2 : decode cX4_isBlock 2 = .ok (.sipush 199, 3) := by decide +kernel
theorem dX4_isBlock_5 : decode cX4_isBlock 5 = .ok (.invokestatic 30, 3) := by decide +kernel
theorem dX4_isBlock_8 : decode cX4_isBlock 8 = .ok (.ireturn, 1) := by decide +kernel
theorem dX4_within_0 : decode cX4_within 0 = .ok (.iload_n 0, 1) := by decide +kernel
theorem dX4_within_1 : decode cX4_within 1 = .ok (.iload_n 1, 1) := by decide +kernel
theorem dX4_within_2 : decode cX4_within 2 = .ok (.if_icmp .lt 12, 3) := by decide +kernel
theorem dX4_within_5 : decode cX4_within 5 = .ok (.iload_n 0, 1) := by decide +kernel
theorem dX4_within_6 : decode cX4_within 6 = .ok (.iload_n 2, 1) := by decide +kernel
theorem dX4_within_7 : decode cX4_within 7 = .ok (.if_icmp .gt 7, 3) := by decide +kernel
theorem dX4_within_10 : decode cX4_within 10 = .ok (.iconst 1, 1) := by decide +kernel
theorem dX4_within_11 : decode cX4_within 11 = .ok (.goto 4, 3) := by decide +kernel
theorem dX4_within_14 : decode cX4_within 14 = .ok (.iconst 0, 1) := by decide +kernel
theorem dX4_within_15 : decode cX4_within 15 = .ok (.ireturn, 1) := by decide +kernel
set_option maxRecDepth 20000 in
theorem ggX4_fractionPart_X4_greatestDivisor : GoodIn wsX4_fractionPart wsX4_greatestDivisor := goodIn_r _ [4] (by decide +kernel) (by decide +kernel)
set_option maxRecDepth 20000 in
theorem gX4_fractionPart_X4_greatestDivisor : GoodIn wsX4_fractionPart (va_wsS RX4 176 yX4_greatestDivisor wsX4_greatestDivisor) := goodIn_app (goodIn_of _ (by decide +kernel)) ggX4_fractionPart_X4_greatestDivisor
set_option maxRecDepth 20000 in
theorem ggX4_fractionPart_X4_quotient : GoodIn wsX4_fractionPart wsX4_quotient := goodIn_r _ [7] (by decide +kernel) (by decide +kernel)
set_option maxRecDepth 20000 in
theorem gX4_fractionPart_X4_quotient : GoodIn wsX4_fractionPart (va_wsS RX4 179 yX4_quotient wsX4_quotient) := goodIn_app (goodIn_of _ (by decide +kernel)) ggX4_fractionPart_X4_quotient
theorem dX4_fractionPart_0 : decode cX4_fractionPart 0 = .ok (.iload_n 2, 1) := by decide +kernel
theorem dX4_fractionPart_1 : decode cX4_fractionPart 1 = .ok (.ifCond .ne 7, 3) := by decide +kernel
theorem dX4_fractionPart_4 : decode cX4_fractionPart 4 = .ok (.iload_n 0, 1) := by decide +kernel
theorem dX4_fractionPart_5 : decode cX4_fractionPart 5 = .ok (.goto 4, 3) := by decide +kernel
theorem dX4_fractionPart_8 : decode cX4_fractionPart 8 = .ok (.iload_n 1, 1) := by decide +kernel
theorem dX4_fractionPart_9 : decode cX4_fractionPart 9 = .ok (.iload_n 0, 1) := by decide +kernel
theorem dX4_fractionPart_10 : decode cX4_fractionPart 10 = .ok (.iload_n 1, 1) := by decide +kernel
theorem dX4_fractionPart_11 : decode cX4_fractionPart 11 = .ok (.invokestatic 176, 3) := by decide +kernel
theorem dX4_fractionPart_14 : decode cX4_fractionPart 14 = .ok (.invokestatic 179, 3) := by decide +kernel
theorem dX4_fractionPart_17 : decode cX4_fractionPart 17 = .ok (.ireturn, 1) := by decide +kernel
theorem dX4_greatestDivisor_0 : decode cX4_greatestDivisor 0 = .ok (.iload_n 1, 1) := by decide +kernel
theorem dX4_greatestDivisor_1 : decode cX4_greatestDivisor 1 = .ok (.istore_n 2, 1) := by decide +kernel
theorem dX4_greatestDivisor_2 : decode cX4_greatestDivisor 2 = .ok (.iload_n 2, 1) := by decide +kernel
theorem dX4_greatestDivisor_3 : decode cX4_greatestDivisor 3 = .ok (.iconst 1, 1) := by decide +kernel
theorem dX4_greatestDivisor_4 : decode cX4_greatestDivisor 4 = .ok (.if_icmp .le 23, 3) := by decide +kernel
theorem dX4_greatestDivisor_7 : decode cX4_greatestDivisor 7 = .ok (.iload_n 0, 1) := by decide +kernel
theorem dX4_greatestDivisor_8 : decode cX4_greatestDivisor 8 = .ok (.iload_n 2, 1) := by decide +kernel
theorem dX4_greatestDivisor_9 : decode cX4_greatestDivisor 9 = .ok (.irem, 1) := by decide +kernel
theorem dX4_greatestDivisor_10 : decode cX4_greatestDivisor 10 = .ok (.ifCond .ne 11, 3) := by decide +kernel
theorem dX4_greatestDivisor_13 : decode cX4_greatestDivisor 13 = .ok (.iload_n 1, 1) := by decide +kernel
theorem dX4_greatestDivisor_14 : decode cX4_greatestDivisor 14 = .ok (.iload_n 2, 1) := by decide +kernel
theorem dX4_greatestDivisor_15 : decode cX4_greatestDivisor 15 = .ok (.irem, 1) := by decide +kernel
theorem dX4_greatestDivisor_16 : decode cX4_greatestDivisor 16 = .ok (.ifCond .ne 5, 3) := by decide +kernel
theorem dX4_greatestDivisor_19 : decode cX4_greatestDivisor 19 = .ok (.iload_n 2, 1) := by decide +kernel
theorem dX4_greatestDivisor_20 : decode cX4_greatestDivisor 20 = .ok (.ireturn, 1) := by decide +kernel
theorem dX4_greatestDivisor_21 : decode cX4_greatestDivisor 21 = .ok (.iinc 2 (-1), 3) := by decide +kernel
theorem dX4_greatestDivisor_24 : decode cX4_greatestDivisor 24 = .ok (.goto (-22), 3) := by decide +kernel
theorem dX4_greatestDivisor_27 : decode cX4_greatestDivisor 27 = .ok (.iconst 1, 1) := by decide +kernel
theorem dX4_greatestDivisor_28 : decode cX4_greatestDivisor 28 = .ok (.ireturn, 1) := by decide +kernel
theorem dX4_quotient_0 : decode cX4_quotient 0 = .ok (.iload_n 1, 1) := by decide +kernel
theorem dX4_quotient_1 : decode cX4_quotient 1 = .ok (.ifCond .le 9, 3) := by decide +kernel
theorem dX4_quotient_4 : decode cX4_quotient 4 = .ok (.iload_n 0, 1) := by decide +kernel
theorem dX4_quotient_5 : decode cX4_quotient 5 = .ok (.iload_n 1, 1) := by decide +kernel
theorem dX4_quotient_6 : decode cX4_quotient 6 = .ok (.idiv, 1) := by decide +kernel
theorem dX4_quotient_7 : decode cX4_quotient 7 = .ok (.goto 4, 3) := by decide +kernel
theorem dX4_quotient_10 : decode cX4_quotient 10 = .ok (.iconst 0, 1) := by decide +kernel
theorem dX4_quotient_11 : decode cX4_quotient 11 = .ok (.ireturn, 1) := by decide +kernel
theorem dX4_leftOver_0 : decode cX4_leftOver 0 = .ok (.iload_n 1, 1) := by decide +kernel
theorem dX4_leftOver_1 : decode cX4_leftOver 1 = .ok (.ifCond .le 9, 3) := by decide +kernel
theorem dX4_leftOver_4 : decode cX4_leftOver 4 = .ok (.iload_n 0, 1) := by decide +kernel
theorem dX4_leftOver_5 : decode cX4_leftOver 5 = .ok (.iload_n 1, 1) := by decide +kernel
theorem dX4_leftOver_6 : decode cX4_leftOver 6 = .ok (.irem, 1) := by decide +kernel
theorem dX4_leftOver_7 : decode cX4_leftOver 7 = .ok (.goto 4, 3) := by decide +kernel
theorem dX4_leftOver_10 : decode cX4_leftOver 10 = .ok (.iconst 0, 1) := by decide +kernel
theorem dX4_leftOver_11 : decode cX4_leftOver 11 = .ok (.ireturn, 1) := by decide +kernel
