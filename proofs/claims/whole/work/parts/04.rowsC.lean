set_option maxRecDepth 20000 in
theorem ggX5_init_X5_begin : GoodIn wsX5_init wsX5_begin := goodIn_r _ [14, 5, 15, 16, 17, 18] (by decide +kernel) (by decide +kernel)
set_option maxRecDepth 20000 in
theorem gX5_init_X5_begin : GoodIn wsX5_init (wsV RX5 23 RX5 yX5_begin wsX5_begin) := goodIn_app (goodIn_of _ (by decide +kernel)) ggX5_init_X5_begin
theorem dX5_init_0 : decode cX5_init 0 = .ok (.aload_n 0, 1) := by decide +kernel
theorem dX5_init_1 : decode cX5_init 1 = .ok (.invokespecial 1, 3) := by decide +kernel
theorem dX5_init_4 : decode cX5_init 4 = .ok (.aload_n 0, 1) := by decide +kernel
theorem dX5_init_5 : decode cX5_init 5 = .ok (.sipush 2108, 3) := by decide +kernel
theorem dX5_init_8 : decode cX5_init 8 = .ok (.newarray .int, 2) := by decide +kernel
theorem dX5_init_10 : decode cX5_init 10 = .ok (.putfield 7, 3) := by decide +kernel
theorem dX5_init_13 : decode cX5_init 13 = .ok (.aload_n 0, 1) := by decide +kernel
theorem dX5_init_14 : decode cX5_init 14 = .ok (.sipush 4216, 3) := by decide +kernel
theorem dX5_init_17 : decode cX5_init 17 = .ok (.newarray .int, 2) := by decide +kernel
theorem dX5_init_19 : decode cX5_init 19 = .ok (.putfield 13, 3) := by decide +kernel
theorem dX5_init_22 : decode cX5_init 22 = .ok (.aload_n 0, 1) := by decide +kernel
theorem dX5_init_23 : decode cX5_init 23 = .ok (.iconst 2, 1) := by decide +kernel
theorem dX5_init_24 : decode cX5_init 24 = .ok (.newarray .boolean, 2) := by decide +kernel
theorem dX5_init_26 : decode cX5_init 26 = .ok (.putfield 16, 3) := by decide +kernel
theorem dX5_init_29 : decode cX5_init 29 = .ok (.aload_n 0, 1) := by decide +kernel
theorem dX5_init_30 : decode cX5_init 30 = .ok (.bipush 25, 2) := by decide +kernel
theorem dX5_init_32 : decode cX5_init 32 = .ok (.newarray .int, 2) := by decide +kernel
theorem dX5_init_34 : decode cX5_init 34 = .ok (.putfield 20, 3) := by decide +kernel
theorem dX5_init_37 : decode cX5_init 37 = .ok (.aload_n 0, 1) := by decide +kernel
theorem dX5_init_38 : decode cX5_init 38 = .ok (.iconst 3, 1) := by decide +kernel
theorem dX5_init_39 : decode cX5_init 39 = .ok (.invokevirtual 23, 3) := by decide +kernel
theorem dX5_init_42 : decode cX5_init 42 = .ok (.return_, 1) := by decide +kernel
theorem dX5_begin_0 : decode cX5_begin 0 = .ok (.iconst 0, 1) := by decide +kernel
theorem dX5_begin_1 : decode cX5_begin 1 = .ok (.istore_n 2, 1) := by decide +kernel
theorem dX5_begin_2 : decode cX5_begin 2 = .ok (.iload_n 2, 1) := by decide +kernel
theorem dX5_begin_3 : decode cX5_begin 3 = .ok (.sipush 2108, 3) := by decide +kernel
theorem dX5_begin_6 : decode cX5_begin 6 = .ok (.if_icmp .ge 16, 3) := by decide +kernel
theorem dX5_begin_9 : decode cX5_begin 9 = .ok (.aload_n 0, 1) := by decide +kernel
theorem dX5_begin_10 : decode cX5_begin 10 = .ok (.getfield 7, 3) := by decide +kernel
theorem dX5_begin_13 : decode cX5_begin 13 = .ok (.iload_n 2, 1) := by decide +kernel
theorem dX5_begin_14 : decode cX5_begin 14 = .ok (.iconst 0, 1) := by decide +kernel
theorem dX5_begin_15 : decode cX5_begin 15 = .ok (.iastore, 1) := by decide +kernel
theorem dX5_begin_16 : decode cX5_begin 16 = .ok (.iinc 2 1, 3) := by decide +kernel
theorem dX5_begin_19 : decode cX5_begin 19 = .ok (.goto (-17), 3) := by decide +kernel
theorem dX5_begin_22 : decode cX5_begin 22 = .ok (.aload_n 0, 1) := by decide +kernel
theorem dX5_begin_23 : decode cX5_begin 23 = .ok (.getfield 7, 3) := by decide +kernel
theorem dX5_begin_26 : decode cX5_begin 26 = .ok (.iconst 0, 1) := by decide +kernel
theorem dX5_begin_27 : decode cX5_begin 27 = .ok (.iload_n 1, 1) := by decide +kernel
theorem dX5_begin_28 : decode cX5_begin 28 = .ok (.iastore, 1) := by decide +kernel
theorem dX5_begin_29 : decode cX5_begin 29 = .ok (.aload_n 0, 1) := by decide +kernel
theorem dX5_begin_30 : decode cX5_begin 30 = .ok (.getfield 7, 3) := by decide +kernel
theorem dX5_begin_33 : decode cX5_begin 33 = .ok (.iconst 3, 1) := by decide +kernel
theorem dX5_begin_34 : decode cX5_begin 34 = .ok (.iconst 5, 1) := by decide +kernel
theorem dX5_begin_35 : decode cX5_begin 35 = .ok (.iastore, 1) := by decide +kernel
theorem dX5_begin_36 : decode cX5_begin 36 = .ok (.iconst 0, 1) := by decide +kernel
theorem dX5_begin_37 : decode cX5_begin 37 = .ok (.istore_n 2, 1) := by decide +kernel
theorem dX5_begin_38 : decode cX5_begin 38 = .ok (.iload_n 2, 1) := by decide +kernel
theorem dX5_begin_39 : decode cX5_begin 39 = .ok (.iconst 4, 1) := by decide +kernel
theorem dX5_begin_40 : decode cX5_begin 40 = .ok (.if_icmp .ge 35, 3) := by decide +kernel
theorem dX5_begin_43 : decode cX5_begin 43 = .ok (.aload_n 0, 1) := by decide +kernel
theorem dX5_begin_44 : decode cX5_begin 44 = .ok (.getfield 7, 3) := by decide +kernel
theorem dX5_begin_47 : decode cX5_begin 47 = .ok (.iconst 4, 1) := by decide +kernel
theorem dX5_begin_48 : decode cX5_begin 48 = .ok (.bipush 6, 2) := by decide +kernel
theorem dX5_begin_50 : decode cX5_begin 50 = .ok (.iload_n 2, 1) := by decide +kernel
theorem dX5_begin_51 : decode cX5_begin 51 = .ok (.imul, 1) := by decide +kernel
theorem dX5_begin_52 : decode cX5_begin 52 = .ok (.iadd, 1) := by decide +kernel
theorem dX5_begin_53 : decode cX5_begin 53 = .ok (.iconst 5, 1) := by decide +kernel
theorem dX5_begin_54 : decode cX5_begin 54 = .ok (.iastore, 1) := by decide +kernel
theorem dX5_begin_55 : decode cX5_begin 55 = .ok (.aload_n 0, 1) := by decide +kernel
theorem dX5_begin_56 : decode cX5_begin 56 = .ok (.getfield 7, 3) := by decide +kernel
theorem dX5_begin_59 : decode cX5_begin 59 = .ok (.iconst 4, 1) := by decide +kernel
theorem dX5_begin_60 : decode cX5_begin 60 = .ok (.bipush 6, 2) := by decide +kernel
theorem dX5_begin_62 : decode cX5_begin 62 = .ok (.iload_n 2, 1) := by decide +kernel
theorem dX5_begin_63 : decode cX5_begin 63 = .ok (.imul, 1) := by decide +kernel
theorem dX5_begin_64 : decode cX5_begin 64 = .ok (.iadd, 1) := by decide +kernel
theorem dX5_begin_65 : decode cX5_begin 65 = .ok (.iconst 2, 1) := by decide +kernel
theorem dX5_begin_66 : decode cX5_begin 66 = .ok (.iadd, 1) := by decide +kernel
theorem dX5_begin_67 : decode cX5_begin 67 = .ok (.iconst 5, 1) := by decide +kernel
theorem dX5_begin_68 : decode cX5_begin 68 = .ok (.iastore, 1) := by decide +kernel
theorem dX5_begin_69 : decode cX5_begin 69 = .ok (.iinc 2 1, 3) := by decide +kernel
theorem dX5_begin_72 : decode cX5_begin 72 = .ok (.goto (-34), 3) := by decide +kernel
theorem dX5_begin_75 : decode cX5_begin 75 = .ok (.return_, 1) := by decide +kernel
theorem dX5_in_0 : decode cX5_in 0 = .ok (.iload_n 0, 1) := by decide +kernel
theorem dX5_in_1 : decode cX5_in 1 = .ok (.iload_n 1, 1) := by decide +kernel
theorem dX5_in_2 : decode cX5_in 2 = .ok (.if_icmp .lt 12, 3) := by decide +kernel
theorem dX5_in_5 : decode cX5_in 5 = .ok (.iload_n 0, 1) := by decide +kernel
theorem dX5_in_6 : decode cX5_in 6 = .ok (.iload_n 2, 1) := by decide +kernel
theorem dX5_in_7 : decode cX5_in 7 = .ok (.if_icmp .gt 7, 3) := by decide +kernel
theorem dX5_in_10 : decode cX5_in 10 = .ok (.iconst 1, 1) := by decide +kernel
theorem dX5_in_11 : decode cX5_in 11 = .ok (.goto 4, 3) := by decide +kernel
theorem dX5_in_14 : decode cX5_in 14 = .ok (.iconst 0, 1) := by decide +kernel
theorem dX5_in_15 : decode cX5_in 15 = .ok (.ireturn, 1) := by decide +kernel
set_option maxRecDepth 20000 in
theorem ggX5_isNode_X5_in : GoodIn wsX5_isNode wsX5_in := goodIn_r _ [5] (by decide +kernel) (by decide +kernel)
set_option maxRecDepth 20000 in
theorem gX5_isNode_X5_in : GoodIn wsX5_isNode (va_wsS RX5 27 yX5_in wsX5_in) := goodIn_app (goodIn_of _ (by decide +kernel)) ggX5_isNode_X5_in
theorem dX5_isNode_0 : decode cX5_isNode 0 = .ok (.iload_n 1, 1) := by decide +kernel
theorem dX5_isNode_1 : decode cX5_isNode 1 = .ok (.iconst 0, 1) := by decide +kernel
theorem dX5_isNode_2 : decode cX5_isNode 2 = .ok (.aload_n 0, 1) := by decide +kernel
theorem dX5_isNode_3 : decode cX5_isNode 3 = .ok (.getfield 7, 3) := by decide +kernel
theorem dX5_isNode_6 : decode cX5_isNode 6 = .ok (.iconst 0, 1) := by decide +kernel
theorem dX5_isNode_7 : decode cX5_isNode 7 = .ok (.iaload, 1) := by decide +kernel
theorem dX5_isNode_8 : decode cX5_isNode 8 = .ok (.iconst 1, 1) := by decide +kernel
theorem dX5_isNode_9 : decode cX5_isNode 9 = .ok (.isub, 1) := by decide +kernel
theorem dX5_isNode_10 : decode cX5_isNode 10 = .ok (.invokestatic 27, 3) := by decide +kernel
theorem dX5_isNode_13 : decode cX5_isNode 13 = .ok (.ireturn, 1) := by decide +kernel
set_option maxRecDepth 20000 in
theorem ggX5_isLink_X5_in : GoodIn wsX5_isLink wsX5_in := goodIn_r _ [5] (by decide +kernel) (by decide +kernel)
set_option maxRecDepth 20000 in
theorem gX5_isLink_X5_in : GoodIn wsX5_isLink (va_wsS RX5 27 yX5_in wsX5_in) := goodIn_app (goodIn_of _ (by decide +kernel)) ggX5_isLink_X5_in
theorem dX5_isLink_0 : decode cX5_isLink 0 = .ok (.iload_n 1, 1) := by decide +kernel
theorem dX5_isLink_1 : decode cX5_isLink 1 = .ok (.iconst 0, 1) := by decide +kernel
theorem dX5_isLink_2 : decode cX5_isLink 2 = .ok (.aload_n 0, 1) := by decide +kernel
theorem dX5_isLink_3 : decode cX5_isLink 3 = .ok (.getfield 7, 3) := by decide +kernel
theorem dX5_isLink_6 : decode cX5_isLink 6 = .ok (.iconst 0, 1) := by decide +kernel
theorem dX5_isLink_7 : decode cX5_isLink 7 = .ok (.iaload, 1) := by decide +kernel
theorem dX5_isLink_8 : decode cX5_isLink 8 = .ok (.iconst 2, 1) := by decide +kernel
theorem dX5_isLink_9 : decode cX5_isLink 9 = .ok (.isub, 1) := by decide +kernel
theorem dX5_isLink_10 : decode cX5_isLink 10 = .ok (.invokestatic 27, 3) := by decide +kernel
theorem dX5_isLink_13 : decode cX5_isLink 13 = .ok (.ireturn, 1) := by decide +kernel
set_option maxRecDepth 20000 in
theorem ggX5_isBlock_X5_in : GoodIn wsX5_isBlock wsX5_in := goodIn_r _ [4] (by decide +kernel) (by decide +kernel)
set_option maxRecDepth 20000 in
theorem gX5_isBlock_X5_in : GoodIn wsX5_isBlock (va_wsS RX5 27 yX5_in wsX5_in) := goodIn_app (goodIn_of _ (by decide +kernel)) ggX5_isBlock_X5_in
theorem dX5_isBlock_0 : decode cX5_isBlock 0 = .ok (.iload_n 0, 1) := by decide +kernel
theorem dX5_isBlock_1 : decode cX5_isBlock 1 = .ok (.iconst 0, 1) := by decide +kernel
theorem dX5_isBlock_2 : decode cX5_isBlock 2 = .ok (.sipush 199, 3) := by decide +kernel
theorem dX5_isBlock_5 : decode cX5_isBlock 5 = .ok (.invokestatic 27, 3) := by decide +kernel
theorem dX5_isBlock_8 : decode cX5_isBlock 8 = .ok (.ireturn, 1) := by decide +kernel
theorem dX5_linkOf_0 : decode cX5_linkOf 0 = .ok (.aload_n 0, 1) := by decide +kernel
theorem dX5_linkOf_1 : decode cX5_linkOf 1 = .ok (.getfield 7, 3) := by decide +kernel
theorem dX5_linkOf_4 : decode cX5_linkOf 4 = .ok (.iconst 4, 1) := by decide +kernel
theorem dX5_linkOf_5 : decode cX5_linkOf 5 = .ok (.bipush 6, 2) := by decide +kernel
theorem dX5_linkOf_7 : decode cX5_linkOf 7 = .ok (.iload_n 1, 1) := by decide +kernel
theorem dX5_linkOf_8 : decode cX5_linkOf 8 = .ok (.imul, 1) := by decide +kernel
theorem dX5_linkOf_9 : decode cX5_linkOf 9 = .ok (.iadd, 1) := by decide +kernel
theorem dX5_linkOf_10 : decode cX5_linkOf 10 = .ok (.iload_n 2, 1) := by decide +kernel
theorem dX5_linkOf_11 : decode cX5_linkOf 11 = .ok (.iadd, 1) := by decide +kernel
theorem dX5_linkOf_12 : decode cX5_linkOf 12 = .ok (.iaload, 1) := by decide +kernel
theorem dX5_linkOf_13 : decode cX5_linkOf 13 = .ok (.ireturn, 1) := by decide +kernel
set_option maxRecDepth 20000 in
theorem ggX5_nodes_X5_in : GoodIn wsX5_nodes wsX5_in := goodIn_r _ [5] (by decide +kernel) (by decide +kernel)
set_option maxRecDepth 20000 in
theorem gX5_nodes_X5_in : GoodIn wsX5_nodes (va_wsS RX5 27 yX5_in wsX5_in) := goodIn_app (goodIn_of _ (by decide +kernel)) ggX5_nodes_X5_in
set_option maxRecDepth 20000 in
theorem ggX5_nodes_X5_begin : GoodIn wsX5_nodes wsX5_begin := goodIn_r _ [9, 1, 10, 11, 12, 13] (by decide +kernel) (by decide +kernel)
set_option maxRecDepth 20000 in
theorem gX5_nodes_X5_begin : GoodIn wsX5_nodes (wsV RX5 23 RX5 yX5_begin wsX5_begin) := goodIn_app (goodIn_of _ (by decide +kernel)) ggX5_nodes_X5_begin
theorem dX5_nodes_0 : decode cX5_nodes 0 = .ok (.iload_n 1, 1) := by decide +kernel
theorem dX5_nodes_1 : decode cX5_nodes 1 = .ok (.iconst 2, 1) := by decide +kernel
theorem dX5_nodes_2 : decode cX5_nodes 2 = .ok (.iconst 5, 1) := by decide +kernel
theorem dX5_nodes_3 : decode cX5_nodes 3 = .ok (.invokestatic 27, 3) := by decide +kernel
theorem dX5_nodes_6 : decode cX5_nodes 6 = .ok (.ifCond .ne 6, 3) := by decide +kernel
theorem dX5_nodes_9 : decode cX5_nodes 9 = .ok (.bipush (-2), 2) := by decide +kernel
theorem dX5_nodes_11 : decode cX5_nodes 11 = .ok (.ireturn, 1) := by decide +kernel
theorem dX5_nodes_12 : decode cX5_nodes 12 = .ok (.aload_n 0, 1) := by decide +kernel
theorem dX5_nodes_13 : decode cX5_nodes 13 = .ok (.getfield 7, 3) := by decide +kernel
theorem dX5_nodes_16 : decode cX5_nodes 16 = .ok (.iconst 0, 1) := by decide +kernel
theorem dX5_nodes_17 : decode cX5_nodes 17 = .ok (.iaload, 1) := by decide +kernel
theorem dX5_nodes_18 : decode cX5_nodes 18 = .ok (.istore_n 2, 1) := by decide +kernel
theorem dX5_nodes_19 : decode cX5_nodes 19 = .ok (.aload_n 0, 1) := by decide +kernel
theorem dX5_nodes_20 : decode cX5_nodes 20 = .ok (.iload_n 1, 1) := by decide +kernel
theorem dX5_nodes_21 : decode cX5_nodes 21 = .ok (.invokevirtual 23, 3) := by decide +kernel
theorem dX5_nodes_24 : decode cX5_nodes 24 = .ok (.iload_n 2, 1) := by decide +kernel
theorem dX5_nodes_25 : decode cX5_nodes 25 = .ok (.ireturn, 1) := by decide +kernel
set_option maxRecDepth 20000 in
theorem ggX5_canBe_X5_in : GoodIn wsX5_canBe wsX5_in := goodIn_r _ [4] (by decide +kernel) (by decide +kernel)
set_option maxRecDepth 20000 in
theorem gX5_canBe_X5_in : GoodIn wsX5_canBe (va_wsS RX5 27 yX5_in wsX5_in) := goodIn_app (goodIn_of _ (by decide +kernel)) ggX5_canBe_X5_in
theorem dX5_canBe_0 : decode cX5_canBe 0 = .ok (.iload_n 0, 1) := by decide +kernel
theorem dX5_canBe_1 : decode cX5_canBe 1 = .ok (.ifCond .eq 8, 3) := by decide +kernel
theorem dX5_canBe_4 : decode cX5_canBe 4 = .ok (.iload_n 0, 1) := by decide +kernel
theorem dX5_canBe_5 : decode cX5_canBe 5 = .ok (.iconst 2, 1) := by decide +kernel
theorem dX5_canBe_6 : decode cX5_canBe 6 = .ok (.if_icmp .ne 13, 3) := by decide +kernel
theorem dX5_canBe_9 : decode cX5_canBe 9 = .ok (.iload_n 1, 1) := by decide +kernel
theorem dX5_canBe_10 : decode cX5_canBe 10 = .ok (.iconst 1, 1) := by decide +kernel
theorem dX5_canBe_11 : decode cX5_canBe 11 = .ok (.bipush 20, 2) := by decide +kernel
theorem dX5_canBe_13 : decode cX5_canBe 13 = .ok (.invokestatic 27, 3) := by decide +kernel
theorem dX5_canBe_16 : decode cX5_canBe 16 = .ok (.goto 10, 3) := by decide +kernel
theorem dX5_canBe_19 : decode cX5_canBe 19 = .ok (.iload_n 1, 1) := by decide +kernel
theorem dX5_canBe_20 : decode cX5_canBe 20 = .ok (.iconst 0, 1) := by decide +kernel
theorem dX5_canBe_21 : decode cX5_canBe 21 = .ok (.bipush 9, 2) := by decide +kernel
theorem dX5_canBe_23 : decode cX5_canBe 23 = .ok (.invokestatic 27, 3) := by decide +kernel
theorem dX5_canBe_26 : decode cX5_canBe 26 = .ok (.ireturn, 1) := by decide +kernel
set_option maxRecDepth 20000 in
theorem ggX5_link_X5_isLink : GoodIn wsX5_link wsX5_isLink := goodIn_r _ [6, 1, 7, 8, 5, 9, 17, 18, 19, 20] (by decide +kernel) (by decide +kernel)
set_option maxRecDepth 20000 in
theorem gX5_link_X5_isLink : GoodIn wsX5_link (wsV RX5 31 RX5 yX5_isLink wsX5_isLink) := goodIn_app (goodIn_of _ (by decide +kernel)) ggX5_link_X5_isLink
set_option maxRecDepth 20000 in
theorem ggX5_link_X5_in : GoodIn wsX5_link wsX5_in := goodIn_r _ [9] (by decide +kernel) (by decide +kernel)
set_option maxRecDepth 20000 in
theorem gX5_link_X5_in : GoodIn wsX5_link (va_wsS RX5 27 yX5_in wsX5_in) := goodIn_app (goodIn_of _ (by decide +kernel)) ggX5_link_X5_in
set_option maxRecDepth 20000 in
theorem ggX5_link_X5_canBe : GoodIn wsX5_link wsX5_canBe := goodIn_r _ [12, 7, 8, 5, 9] (by decide +kernel) (by decide +kernel)
set_option maxRecDepth 20000 in
theorem gX5_link_X5_canBe : GoodIn wsX5_link (va_wsS RX5 35 yX5_canBe wsX5_canBe) := goodIn_app (goodIn_of _ (by decide +kernel)) ggX5_link_X5_canBe
set_option maxRecDepth 20000 in
theorem ggX5_link_X5_linkOf : GoodIn wsX5_link wsX5_linkOf := goodIn_r _ [16, 1, 17, 18, 19, 20] (by decide +kernel) (by decide +kernel)
set_option maxRecDepth 20000 in
theorem gX5_link_X5_linkOf : GoodIn wsX5_link (wsV RX5 39 RX5 yX5_linkOf wsX5_linkOf) := goodIn_app (goodIn_of _ (by decide +kernel)) ggX5_link_X5_linkOf
theorem dX5_link_0 : decode cX5_link 0 = .ok (.aload_n 0, 1) := by decide +kernel
theorem dX5_link_1 : decode cX5_link 1 = .ok (.iload_n 1, 1) := by decide +kernel
theorem dX5_link_2 : decode cX5_link 2 = .ok (.invokevirtual 31, 3) := by decide +kernel
theorem dX5_link_5 : decode cX5_link 5 = .ok (.ifCond .ne 5, 3) := by decide +kernel
theorem dX5_link_8 : decode cX5_link 8 = .ok (.iconst (-1), 1) := by decide +kernel
theorem dX5_link_9 : decode cX5_link 9 = .ok (.ireturn, 1) := by decide +kernel
theorem dX5_link_10 : decode cX5_link 10 = .ok (.iload_n 2, 1) := by decide +kernel
theorem dX5_link_11 : decode cX5_link 11 = .ok (.iconst 0, 1) := by decide +kernel
theorem dX5_link_12 : decode cX5_link 12 = .ok (.iconst 5, 1) := by decide +kernel
theorem dX5_link_13 : decode cX5_link 13 = .ok (.invokestatic 27, 3) := by decide +kernel
theorem dX5_link_16 : decode cX5_link 16 = .ok (.ifCond .eq 11, 3) := by decide +kernel
theorem dX5_link_19 : decode cX5_link 19 = .ok (.iload_n 2, 1) := by decide +kernel
theorem dX5_link_20 : decode cX5_link 20 = .ok (.iload_n 3, 1) := by decide +kernel
theorem dX5_link_21 : decode cX5_link 21 = .ok (.invokestatic 35, 3) := by decide +kernel
theorem dX5_link_24 : decode cX5_link 24 = .ok (.ifCond .ne 6, 3) := by decide +kernel
theorem dX5_link_27 : decode cX5_link 27 = .ok (.bipush (-2), 2) := by decide +kernel
theorem dX5_link_29 : decode cX5_link 29 = .ok (.ireturn, 1) := by decide +kernel
theorem dX5_link_30 : decode cX5_link 30 = .ok (.aload_n 0, 1) := by decide +kernel
theorem dX5_link_31 : decode cX5_link 31 = .ok (.iload_n 1, 1) := by decide +kernel
theorem dX5_link_32 : decode cX5_link 32 = .ok (.iload_n 2, 1) := by decide +kernel
theorem dX5_link_33 : decode cX5_link 33 = .ok (.invokevirtual 39, 3) := by decide +kernel
theorem dX5_link_36 : decode cX5_link 36 = .ok (.istore 4, 2) := by decide +kernel
theorem dX5_link_38 : decode cX5_link 38 = .ok (.aload_n 0, 1) := by decide +kernel
theorem dX5_link_39 : decode cX5_link 39 = .ok (.getfield 7, 3) := by decide +kernel
theorem dX5_link_42 : decode cX5_link 42 = .ok (.iconst 4, 1) := by decide +kernel
theorem dX5_link_43 : decode cX5_link 43 = .ok (.bipush 6, 2) := by decide +kernel
theorem dX5_link_45 : decode cX5_link 45 = .ok (.iload_n 1, 1) := by decide +kernel
theorem dX5_link_46 : decode cX5_link 46 = .ok (.imul, 1) := by decide +kernel
theorem dX5_link_47 : decode cX5_link 47 = .ok (.iadd, 1) := by decide +kernel
theorem dX5_link_48 : decode cX5_link 48 = .ok (.iload_n 2, 1) := by decide +kernel
theorem dX5_link_49 : decode cX5_link 49 = .ok (.iadd, 1) := by decide +kernel
theorem dX5_link_50 : decode cX5_link 50 = .ok (.iload_n 3, 1) := by decide +kernel
theorem dX5_link_51 : decode cX5_link 51 = .ok (.iastore, 1) := by decide +kernel
theorem dX5_link_52 : decode cX5_link 52 = .ok (.iload 4, 2) := by decide +kernel
theorem dX5_link_54 : decode cX5_link 54 = .ok (.ireturn, 1) := by decide +kernel
set_option maxRecDepth 20000 in
theorem ggX5_clock_X5_isNode : GoodIn wsX5_clock wsX5_isNode := goodIn_r _ [9, 3, 10, 11, 8, 12, 13, 14, 15, 16] (by decide +kernel) (by decide +kernel)
set_option maxRecDepth 20000 in
theorem gX5_clock_X5_isNode : GoodIn wsX5_clock (wsV RX5 43 RX5 yX5_isNode wsX5_isNode) := goodIn_app (goodIn_of _ (by decide +kernel)) ggX5_clock_X5_isNode
set_option maxRecDepth 20000 in
theorem ggX5_clock_X5_in : GoodIn wsX5_clock wsX5_in := goodIn_r _ [12] (by decide +kernel) (by decide +kernel)
set_option maxRecDepth 20000 in
theorem gX5_clock_X5_in : GoodIn wsX5_clock (va_wsS RX5 27 yX5_in wsX5_in) := goodIn_app (goodIn_of _ (by decide +kernel)) ggX5_clock_X5_in
theorem dX5_clock_0 : decode cX5_clock 0 = .ok (.aload_n 0, 1) := by decide +kernel
theorem dX5_clock_1 : decode cX5_clock 1 = .ok (.iload_n 1, 1) := by decide +kernel
theorem dX5_clock_2 : decode cX5_clock 2 = .ok (.invokevirtual 43, 3) := by decide +kernel
theorem dX5_clock_5 : decode cX5_clock 5 = .ok (.ifCond .ne 6, 3) := by decide +kernel
theorem dX5_clock_8 : decode cX5_clock 8 = .ok (.ldc 46, 2) := by decide +kernel
theorem dX5_clock_10 : decode cX5_clock 10 = .ok (.ireturn, 1) := by decide +kernel
theorem dX5_clock_11 : decode cX5_clock 11 = .ok (.iload_n 2, 1) := by decide +kernel
theorem dX5_clock_12 : decode cX5_clock 12 = .ok (.bipush (-99), 2) := by decide +kernel
theorem dX5_clock_14 : decode cX5_clock 14 = .ok (.bipush 99, 2) := by decide +kernel
theorem dX5_clock_16 : decode cX5_clock 16 = .ok (.invokestatic 27, 3) := by decide +kernel
theorem dX5_clock_19 : decode cX5_clock 19 = .ok (.ifCond .ne 6, 3) := by decide +kernel
theorem dX5_clock_22 : decode cX5_clock 22 = .ok (.ldc 47, 2) := by decide +kernel
theorem dX5_clock_24 : decode cX5_clock 24 = .ok (.ireturn, 1) := by decide +kernel
theorem dX5_clock_25 : decode cX5_clock 25 = .ok (.aload_n 0, 1) := by decide +kernel
theorem dX5_clock_26 : decode cX5_clock 26 = .ok (.getfield 7, 3) := by decide +kernel
theorem dX5_clock_29 : decode cX5_clock 29 = .ok (.iconst 2, 1) := by decide +kernel
theorem dX5_clock_30 : decode cX5_clock 30 = .ok (.iaload, 1) := by decide +kernel
theorem dX5_clock_31 : decode cX5_clock 31 = .ok (.ifCond .le 6, 3) := by decide +kernel
theorem dX5_clock_34 : decode cX5_clock 34 = .ok (.ldc 48, 2) := by decide +kernel
theorem dX5_clock_36 : decode cX5_clock 36 = .ok (.ireturn, 1) := by decide +kernel
theorem dX5_clock_37 : decode cX5_clock 37 = .ok (.aload_n 0, 1) := by decide +kernel
theorem dX5_clock_38 : decode cX5_clock 38 = .ok (.getfield 7, 3) := by decide +kernel
theorem dX5_clock_41 : decode cX5_clock 41 = .ok (.bipush 28, 2) := by decide +kernel
theorem dX5_clock_43 : decode cX5_clock 43 = .ok (.iload_n 1, 1) := by decide +kernel
theorem dX5_clock_44 : decode cX5_clock 44 = .ok (.iadd, 1) := by decide +kernel
theorem dX5_clock_45 : decode cX5_clock 45 = .ok (.iaload, 1) := by decide +kernel
theorem dX5_clock_46 : decode cX5_clock 46 = .ok (.istore_n 3, 1) := by decide +kernel
theorem dX5_clock_47 : decode cX5_clock 47 = .ok (.aload_n 0, 1) := by decide +kernel
theorem dX5_clock_48 : decode cX5_clock 48 = .ok (.getfield 7, 3) := by decide +kernel
theorem dX5_clock_51 : decode cX5_clock 51 = .ok (.bipush 28, 2) := by decide +kernel
theorem dX5_clock_53 : decode cX5_clock 53 = .ok (.iload_n 1, 1) := by decide +kernel
theorem dX5_clock_54 : decode cX5_clock 54 = .ok (.iadd, 1) := by decide +kernel
theorem dX5_clock_55 : decode cX5_clock 55 = .ok (.iload_n 2, 1) := by decide +kernel
theorem dX5_clock_56 : decode cX5_clock 56 = .ok (.iastore, 1) := by decide +kernel
theorem dX5_clock_57 : decode cX5_clock 57 = .ok (.iconst 0, 1) := by decide +kernel
theorem dX5_clock_58 : decode cX5_clock 58 = .ok (.istore 4, 2) := by decide +kernel
theorem dX5_clock_60 : decode cX5_clock 60 = .ok (.iload 4, 2) := by decide +kernel
theorem dX5_clock_62 : decode cX5_clock 62 = .ok (.iconst 5, 1) := by decide +kernel
theorem dX5_clock_63 : decode cX5_clock 63 = .ok (.if_icmp .ge 39, 3) := by decide +kernel
theorem dX5_clock_66 : decode cX5_clock 66 = .ok (.aload_n 0, 1) := by decide +kernel
theorem dX5_clock_67 : decode cX5_clock 67 = .ok (.getfield 7, 3) := by decide +kernel
theorem dX5_clock_70 : decode cX5_clock 70 = .ok (.bipush 83, 2) := by decide +kernel
theorem dX5_clock_72 : decode cX5_clock 72 = .ok (.iconst 5, 1) := by decide +kernel
theorem dX5_clock_73 : decode cX5_clock 73 = .ok (.iload_n 1, 1) := by decide +kernel
theorem dX5_clock_74 : decode cX5_clock 74 = .ok (.imul, 1) := by decide +kernel
theorem dX5_clock_75 : decode cX5_clock 75 = .ok (.iadd, 1) := by decide +kernel
theorem dX5_clock_76 : decode cX5_clock 76 = .ok (.iload 4, 2) := by decide +kernel
theorem dX5_clock_78 : decode cX5_clock 78 = .ok (.iadd, 1) := by decide +kernel
theorem dX5_clock_79 : decode cX5_clock 79 = .ok (.iconst 0, 1) := by decide +kernel
theorem dX5_clock_80 : decode cX5_clock 80 = .ok (.iastore, 1) := by decide +kernel
theorem dX5_clock_81 : decode cX5_clock 81 = .ok (.aload_n 0, 1) := by decide +kernel
theorem dX5_clock_82 : decode cX5_clock 82 = .ok (.getfield 7, 3) := by decide +kernel
theorem dX5_clock_85 : decode cX5_clock 85 = .ok (.bipush 83, 2) := by decide +kernel
theorem dX5_clock_87 : decode cX5_clock 87 = .ok (.iconst 5, 1) := by decide +kernel
theorem dX5_clock_88 : decode cX5_clock 88 = .ok (.iload 4, 2) := by decide +kernel
theorem dX5_clock_90 : decode cX5_clock 90 = .ok (.imul, 1) := by decide +kernel
theorem dX5_clock_91 : decode cX5_clock 91 = .ok (.iadd, 1) := by decide +kernel
theorem dX5_clock_92 : decode cX5_clock 92 = .ok (.iload_n 1, 1) := by decide +kernel
theorem dX5_clock_93 : decode cX5_clock 93 = .ok (.iadd, 1) := by decide +kernel
theorem dX5_clock_94 : decode cX5_clock 94 = .ok (.iconst 0, 1) := by decide +kernel
theorem dX5_clock_95 : decode cX5_clock 95 = .ok (.iastore, 1) := by decide +kernel
theorem dX5_clock_96 : decode cX5_clock 96 = .ok (.iinc 4 1, 3) := by decide +kernel
theorem dX5_clock_99 : decode cX5_clock 99 = .ok (.goto (-39), 3) := by decide +kernel
theorem dX5_clock_102 : decode cX5_clock 102 = .ok (.iload_n 3, 1) := by decide +kernel
theorem dX5_clock_103 : decode cX5_clock 103 = .ok (.ireturn, 1) := by decide +kernel
set_option maxRecDepth 20000 in
theorem ggX5_block_X5_in : GoodIn wsX5_block wsX5_in := goodIn_r _ [5] (by decide +kernel) (by decide +kernel)
set_option maxRecDepth 20000 in
theorem gX5_block_X5_in : GoodIn wsX5_block (va_wsS RX5 27 yX5_in wsX5_in) := goodIn_app (goodIn_of _ (by decide +kernel)) ggX5_block_X5_in
theorem dX5_block_0 : decode cX5_block 0 = .ok (.iload_n 1, 1) := by decide +kernel
theorem dX5_block_1 : decode cX5_block 1 = .ok (.iconst 1, 1) := by decide +kernel
theorem dX5_block_2 : decode cX5_block 2 = .ok (.bipush 20, 2) := by decide +kernel
theorem dX5_block_4 : decode cX5_block 4 = .ok (.invokestatic 27, 3) := by decide +kernel
theorem dX5_block_7 : decode cX5_block 7 = .ok (.ifCond .ne 6, 3) := by decide +kernel
theorem dX5_block_10 : decode cX5_block 10 = .ok (.bipush (-2), 2) := by decide +kernel
theorem dX5_block_12 : decode cX5_block 12 = .ok (.ireturn, 1) := by decide +kernel
theorem dX5_block_13 : decode cX5_block 13 = .ok (.aload_n 0, 1) := by decide +kernel
theorem dX5_block_14 : decode cX5_block 14 = .ok (.getfield 7, 3) := by decide +kernel
theorem dX5_block_17 : decode cX5_block 17 = .ok (.iconst 2, 1) := by decide +kernel
theorem dX5_block_18 : decode cX5_block 18 = .ok (.iaload, 1) := by decide +kernel
theorem dX5_block_19 : decode cX5_block 19 = .ok (.ifCond .le 6, 3) := by decide +kernel
theorem dX5_block_22 : decode cX5_block 22 = .ok (.bipush (-3), 2) := by decide +kernel
theorem dX5_block_24 : decode cX5_block 24 = .ok (.ireturn, 1) := by decide +kernel
theorem dX5_block_25 : decode cX5_block 25 = .ok (.aload_n 0, 1) := by decide +kernel
theorem dX5_block_26 : decode cX5_block 26 = .ok (.getfield 7, 3) := by decide +kernel
theorem dX5_block_29 : decode cX5_block 29 = .ok (.iconst 3, 1) := by decide +kernel
theorem dX5_block_30 : decode cX5_block 30 = .ok (.iaload, 1) := by decide +kernel
theorem dX5_block_31 : decode cX5_block 31 = .ok (.istore_n 2, 1) := by decide +kernel
theorem dX5_block_32 : decode cX5_block 32 = .ok (.aload_n 0, 1) := by decide +kernel
theorem dX5_block_33 : decode cX5_block 33 = .ok (.getfield 7, 3) := by decide +kernel
theorem dX5_block_36 : decode cX5_block 36 = .ok (.iconst 3, 1) := by decide +kernel
theorem dX5_block_37 : decode cX5_block 37 = .ok (.iload_n 1, 1) := by decide +kernel
theorem dX5_block_38 : decode cX5_block 38 = .ok (.iastore, 1) := by decide +kernel
theorem dX5_block_39 : decode cX5_block 39 = .ok (.iload_n 2, 1) := by decide +kernel
theorem dX5_block_40 : decode cX5_block 40 = .ok (.ireturn, 1) := by decide +kernel
set_option maxRecDepth 20000 in
theorem ggX5_pause_X5_in : GoodIn wsX5_pause wsX5_in := goodIn_r _ [5] (by decide +kernel) (by decide +kernel)
set_option maxRecDepth 20000 in
theorem gX5_pause_X5_in : GoodIn wsX5_pause (va_wsS RX5 27 yX5_in wsX5_in) := goodIn_app (goodIn_of _ (by decide +kernel)) ggX5_pause_X5_in
theorem dX5_pause_0 : decode cX5_pause 0 = .ok (.iload_n 1, 1) := by decide +kernel
theorem dX5_pause_1 : decode cX5_pause 1 = .ok (.iconst 1, 1) := by decide +kernel
theorem dX5_pause_2 : decode cX5_pause 2 = .ok (.sipush 999, 3) := by decide +kernel
theorem dX5_pause_5 : decode cX5_pause 5 = .ok (.invokestatic 27, 3) := by decide +kernel
theorem dX5_pause_8 : decode cX5_pause 8 = .ok (.ifCond .ne 6, 3) := by decide +kernel
theorem dX5_pause_11 : decode cX5_pause 11 = .ok (.bipush (-2), 2) := by decide +kernel
theorem dX5_pause_13 : decode cX5_pause 13 = .ok (.ireturn, 1) := by decide +kernel
theorem dX5_pause_14 : decode cX5_pause 14 = .ok (.aload_n 0, 1) := by decide +kernel
theorem dX5_pause_15 : decode cX5_pause 15 = .ok (.getfield 7, 3) := by decide +kernel
theorem dX5_pause_18 : decode cX5_pause 18 = .ok (.iconst 1, 1) := by decide +kernel
theorem dX5_pause_19 : decode cX5_pause 19 = .ok (.iaload, 1) := by decide +kernel
theorem dX5_pause_20 : decode cX5_pause 20 = .ok (.iload_n 1, 1) := by decide +kernel
theorem dX5_pause_21 : decode cX5_pause 21 = .ok (.iadd, 1) := by decide +kernel
theorem dX5_pause_22 : decode cX5_pause 22 = .ok (.sipush 9999, 3) := by decide +kernel
theorem dX5_pause_25 : decode cX5_pause 25 = .ok (.if_icmp .le 6, 3) := by decide +kernel
theorem dX5_pause_28 : decode cX5_pause 28 = .ok (.bipush (-4), 2) := by decide +kernel
theorem dX5_pause_30 : decode cX5_pause 30 = .ok (.ireturn, 1) := by decide +kernel
theorem dX5_pause_31 : decode cX5_pause 31 = .ok (.aload_n 0, 1) := by decide +kernel
theorem dX5_pause_32 : decode cX5_pause 32 = .ok (.getfield 7, 3) := by decide +kernel
theorem dX5_pause_35 : decode cX5_pause 35 = .ok (.iconst 1, 1) := by decide +kernel
theorem dX5_pause_36 : decode cX5_pause 36 = .ok (.dup2, 1) := by decide +kernel
theorem dX5_pause_37 : decode cX5_pause 37 = .ok (.iaload, 1) := by decide +kernel
theorem dX5_pause_38 : decode cX5_pause 38 = .ok (.iload_n 1, 1) := by decide +kernel
theorem dX5_pause_39 : decode cX5_pause 39 = .ok (.iadd, 1) := by decide +kernel
theorem dX5_pause_40 : decode cX5_pause 40 = .ok (.iastore, 1) := by decide +kernel
theorem dX5_pause_41 : decode cX5_pause 41 = .ok (.aload_n 0, 1) := by decide +kernel
theorem dX5_pause_42 : decode cX5_pause 42 = .ok (.getfield 7, 3) := by decide +kernel
theorem dX5_pause_45 : decode cX5_pause 45 = .ok (.iconst 1, 1) := by decide +kernel
theorem dX5_pause_46 : decode cX5_pause 46 = .ok (.iaload, 1) := by decide +kernel
theorem dX5_pause_47 : decode cX5_pause 47 = .ok (.ireturn, 1) := by decide +kernel
set_option maxRecDepth 20000 in
theorem ggX5_over_X5_linkOf : GoodIn wsX5_over wsX5_linkOf := goodIn_r _ [5, 6, 7, 8, 9, 10] (by decide +kernel) (by decide +kernel)
set_option maxRecDepth 20000 in
theorem gX5_over_X5_linkOf : GoodIn wsX5_over (wsV RX5 39 RX5 yX5_linkOf wsX5_linkOf) := goodIn_app (goodIn_of _ (by decide +kernel)) ggX5_over_X5_linkOf
theorem dX5_over_0 : decode cX5_over 0 = .ok (.iload_n 3, 1) := by decide +kernel
theorem dX5_over_1 : decode cX5_over 1 = .ok (.aload_n 0, 1) := by decide +kernel
theorem dX5_over_2 : decode cX5_over 2 = .ok (.iload_n 1, 1) := by decide +kernel
theorem dX5_over_3 : decode cX5_over 3 = .ok (.iconst 2, 1) := by decide +kernel
theorem dX5_over_4 : decode cX5_over 4 = .ok (.iload_n 2, 1) := by decide +kernel
theorem dX5_over_5 : decode cX5_over 5 = .ok (.imul, 1) := by decide +kernel
theorem dX5_over_6 : decode cX5_over 6 = .ok (.invokevirtual 39, 3) := by decide +kernel
theorem dX5_over_9 : decode cX5_over 9 = .ok (.iadd, 1) := by decide +kernel
theorem dX5_over_10 : decode cX5_over 10 = .ok (.iload_n 3, 1) := by decide +kernel
theorem dX5_over_11 : decode cX5_over 11 = .ok (.aload_n 0, 1) := by decide +kernel
theorem dX5_over_12 : decode cX5_over 12 = .ok (.iload_n 1, 1) := by decide +kernel
theorem dX5_over_13 : decode cX5_over 13 = .ok (.iconst 2, 1) := by decide +kernel
theorem dX5_over_14 : decode cX5_over 14 = .ok (.iload_n 2, 1) := by decide +kernel
theorem dX5_over_15 : decode cX5_over 15 = .ok (.imul, 1) := by decide +kernel
theorem dX5_over_16 : decode cX5_over 16 = .ok (.iconst 1, 1) := by decide +kernel
theorem dX5_over_17 : decode cX5_over 17 = .ok (.iadd, 1) := by decide +kernel
theorem dX5_over_18 : decode cX5_over 18 = .ok (.invokevirtual 39, 3) := by decide +kernel
theorem dX5_over_21 : decode cX5_over 21 = .ok (.iconst 1, 1) := by decide +kernel
theorem dX5_over_22 : decode cX5_over 22 = .ok (.iadd, 1) := by decide +kernel
theorem dX5_over_23 : decode cX5_over 23 = .ok (.irem, 1) := by decide +kernel
theorem dX5_over_24 : decode cX5_over 24 = .ok (.iadd, 1) := by decide +kernel
theorem dX5_over_25 : decode cX5_over 25 = .ok (.ireturn, 1) := by decide +kernel
set_option maxRecDepth 20000 in
theorem ggX5_isDropped_X5_linkOf : GoodIn wsX5_isDropped wsX5_linkOf := goodIn_r _ [5, 6, 7, 8, 9, 10] (by decide +kernel) (by decide +kernel)
set_option maxRecDepth 20000 in
theorem gX5_isDropped_X5_linkOf : GoodIn wsX5_isDropped (wsV RX5 39 RX5 yX5_linkOf wsX5_linkOf) := goodIn_app (goodIn_of _ (by decide +kernel)) ggX5_isDropped_X5_linkOf
theorem dX5_isDropped_0 : decode cX5_isDropped 0 = .ok (.aload_n 0, 1) := by decide +kernel
theorem dX5_isDropped_1 : decode cX5_isDropped 1 = .ok (.iload_n 1, 1) := by decide +kernel
theorem dX5_isDropped_2 : decode cX5_isDropped 2 = .ok (.iconst 4, 1) := by decide +kernel
theorem dX5_isDropped_3 : decode cX5_isDropped 3 = .ok (.invokevirtual 39, 3) := by decide +kernel
theorem dX5_isDropped_6 : decode cX5_isDropped 6 = .ok (.ifCond .le 24, 3) := by decide +kernel
theorem dX5_isDropped_9 : decode cX5_isDropped 9 = .ok (.iload_n 2, 1) := by decide +kernel
theorem dX5_isDropped_10 : decode cX5_isDropped 10 = .ok (.aload_n 0, 1) := by decide +kernel
theorem dX5_isDropped_11 : decode cX5_isDropped 11 = .ok (.iload_n 1, 1) := by decide +kernel
theorem dX5_isDropped_12 : decode cX5_isDropped 12 = .ok (.iconst 4, 1) := by decide +kernel
theorem dX5_isDropped_13 : decode cX5_isDropped 13 = .ok (.invokevirtual 39, 3) := by decide +kernel
theorem dX5_isDropped_16 : decode cX5_isDropped 16 = .ok (.irem, 1) := by decide +kernel
theorem dX5_isDropped_17 : decode cX5_isDropped 17 = .ok (.aload_n 0, 1) := by decide +kernel
theorem dX5_isDropped_18 : decode cX5_isDropped 18 = .ok (.iload_n 1, 1) := by decide +kernel
theorem dX5_isDropped_19 : decode cX5_isDropped 19 = .ok (.iconst 5, 1) := by decide +kernel
theorem dX5_isDropped_20 : decode cX5_isDropped 20 = .ok (.invokevirtual 39, 3) := by decide +kernel
theorem dX5_isDropped_23 : decode cX5_isDropped 23 = .ok (.if_icmp .ne 7, 3) := by decide +kernel
theorem dX5_isDropped_26 : decode cX5_isDropped 26 = .ok (.iconst 1, 1) := by decide +kernel
theorem dX5_isDropped_27 : decode cX5_isDropped 27 = .ok (.goto 4, 3) := by decide +kernel
theorem dX5_isDropped_30 : decode cX5_isDropped 30 = .ok (.iconst 0, 1) := by decide +kernel
theorem dX5_isDropped_31 : decode cX5_isDropped 31 = .ok (.ireturn, 1) := by decide +kernel
theorem dX5_note_0 : decode cX5_note 0 = .ok (.aload_n 0, 1) := by decide +kernel
theorem dX5_note_1 : decode cX5_note 1 = .ok (.getfield 7, 3) := by decide +kernel
theorem dX5_note_4 : decode cX5_note 4 = .ok (.bipush 108, 2) := by decide +kernel
theorem dX5_note_6 : decode cX5_note 6 = .ok (.sipush 200, 3) := by decide +kernel
theorem dX5_note_9 : decode cX5_note 9 = .ok (.iload_n 1, 1) := by decide +kernel
theorem dX5_note_10 : decode cX5_note 10 = .ok (.imul, 1) := by decide +kernel
theorem dX5_note_11 : decode cX5_note 11 = .ok (.iadd, 1) := by decide +kernel
theorem dX5_note_12 : decode cX5_note 12 = .ok (.iload_n 2, 1) := by decide +kernel
theorem dX5_note_13 : decode cX5_note 13 = .ok (.iadd, 1) := by decide +kernel
theorem dX5_note_14 : decode cX5_note 14 = .ok (.dup2, 1) := by decide +kernel
theorem dX5_note_15 : decode cX5_note 15 = .ok (.iaload, 1) := by decide +kernel
theorem dX5_note_16 : decode cX5_note 16 = .ok (.iconst 1, 1) := by decide +kernel
theorem dX5_note_17 : decode cX5_note 17 = .ok (.iadd, 1) := by decide +kernel
theorem dX5_note_18 : decode cX5_note 18 = .ok (.iastore, 1) := by decide +kernel
theorem dX5_note_19 : decode cX5_note 19 = .ok (.aload_n 0, 1) := by decide +kernel
theorem dX5_note_20 : decode cX5_note 20 = .ok (.getfield 7, 3) := by decide +kernel
theorem dX5_note_23 : decode cX5_note 23 = .ok (.sipush 1108, 3) := by decide +kernel
theorem dX5_note_26 : decode cX5_note 26 = .ok (.sipush 200, 3) := by decide +kernel
theorem dX5_note_29 : decode cX5_note 29 = .ok (.iload_n 1, 1) := by decide +kernel
theorem dX5_note_30 : decode cX5_note 30 = .ok (.imul, 1) := by decide +kernel
theorem dX5_note_31 : decode cX5_note 31 = .ok (.iadd, 1) := by decide +kernel
theorem dX5_note_32 : decode cX5_note 32 = .ok (.iload_n 2, 1) := by decide +kernel
theorem dX5_note_33 : decode cX5_note 33 = .ok (.iadd, 1) := by decide +kernel
theorem dX5_note_34 : decode cX5_note 34 = .ok (.dup2, 1) := by decide +kernel
theorem dX5_note_35 : decode cX5_note 35 = .ok (.iaload, 1) := by decide +kernel
theorem dX5_note_36 : decode cX5_note 36 = .ok (.iload_n 3, 1) := by decide +kernel
theorem dX5_note_37 : decode cX5_note 37 = .ok (.aload_n 0, 1) := by decide +kernel
theorem dX5_note_38 : decode cX5_note 38 = .ok (.getfield 7, 3) := by decide +kernel
theorem dX5_note_41 : decode cX5_note 41 = .ok (.bipush 28, 2) := by decide +kernel
theorem dX5_note_43 : decode cX5_note 43 = .ok (.iload_n 1, 1) := by decide +kernel
theorem dX5_note_44 : decode cX5_note 44 = .ok (.iadd, 1) := by decide +kernel
theorem dX5_note_45 : decode cX5_note 45 = .ok (.iaload, 1) := by decide +kernel
theorem dX5_note_46 : decode cX5_note 46 = .ok (.iadd, 1) := by decide +kernel
theorem dX5_note_47 : decode cX5_note 47 = .ok (.iadd, 1) := by decide +kernel
theorem dX5_note_48 : decode cX5_note 48 = .ok (.iastore, 1) := by decide +kernel
theorem dX5_note_49 : decode cX5_note 49 = .ok (.return_, 1) := by decide +kernel
set_option maxRecDepth 20000 in
theorem ggX5_sendOne_X5_note : GoodIn wsX5_sendOne wsX5_note := goodIn_r _ [6, 1, 19, 20, 21, 22] (by decide +kernel) (by decide +kernel)
set_option maxRecDepth 20000 in
theorem gX5_sendOne_X5_note : GoodIn wsX5_sendOne (wsV RX5 49 RX5 yX5_note wsX5_note) := goodIn_app (goodIn_of _ (by decide +kernel)) ggX5_sendOne_X5_note
set_option maxRecDepth 20000 in
theorem ggX5_sendOne_X5_isDropped : GoodIn wsX5_sendOne wsX5_isDropped := goodIn_r _ [10, 11, 12, 13, 5, 14, 1, 19, 20, 21, 22] (by decide +kernel) (by decide +kernel)
set_option maxRecDepth 20000 in
theorem gX5_sendOne_X5_isDropped : GoodIn wsX5_sendOne (wsV RX5 53 RX5 yX5_isDropped wsX5_isDropped) := goodIn_app (goodIn_of _ (by decide +kernel)) ggX5_sendOne_X5_isDropped
set_option maxRecDepth 20000 in
theorem ggX5_sendOne_X5_over : GoodIn wsX5_sendOne wsX5_over := goodIn_r _ [18, 11, 12, 13, 5, 14, 1, 19, 20, 21, 22] (by decide +kernel) (by decide +kernel)
set_option maxRecDepth 20000 in
theorem gX5_sendOne_X5_over : GoodIn wsX5_sendOne (wsV RX5 56 RX5 yX5_over wsX5_over) := goodIn_app (goodIn_of _ (by decide +kernel)) ggX5_sendOne_X5_over
theorem dX5_sendOne_0 : decode cX5_sendOne 0 = .ok (.aload_n 0, 1) := by decide +kernel
theorem dX5_sendOne_1 : decode cX5_sendOne 1 = .ok (.getfield 7, 3) := by decide +kernel
theorem dX5_sendOne_4 : decode cX5_sendOne 4 = .ok (.iconst 2, 1) := by decide +kernel
theorem dX5_sendOne_5 : decode cX5_sendOne 5 = .ok (.iaload, 1) := by decide +kernel
theorem dX5_sendOne_6 : decode cX5_sendOne 6 = .ok (.istore_n 1, 1) := by decide +kernel
theorem dX5_sendOne_7 : decode cX5_sendOne 7 = .ok (.iload_n 1, 1) := by decide +kernel
theorem dX5_sendOne_8 : decode cX5_sendOne 8 = .ok (.aload_n 0, 1) := by decide +kernel
theorem dX5_sendOne_9 : decode cX5_sendOne 9 = .ok (.getfield 7, 3) := by decide +kernel
theorem dX5_sendOne_12 : decode cX5_sendOne 12 = .ok (.iconst 3, 1) := by decide +kernel
theorem dX5_sendOne_13 : decode cX5_sendOne 13 = .ok (.iaload, 1) := by decide +kernel
theorem dX5_sendOne_14 : decode cX5_sendOne 14 = .ok (.idiv, 1) := by decide +kernel
theorem dX5_sendOne_15 : decode cX5_sendOne 15 = .ok (.istore_n 2, 1) := by decide +kernel
theorem dX5_sendOne_16 : decode cX5_sendOne 16 = .ok (.aload_n 0, 1) := by decide +kernel
theorem dX5_sendOne_17 : decode cX5_sendOne 17 = .ok (.getfield 7, 3) := by decide +kernel
theorem dX5_sendOne_20 : decode cX5_sendOne 20 = .ok (.iconst 1, 1) := by decide +kernel
theorem dX5_sendOne_21 : decode cX5_sendOne 21 = .ok (.iaload, 1) := by decide +kernel
theorem dX5_sendOne_22 : decode cX5_sendOne 22 = .ok (.istore_n 3, 1) := by decide +kernel
theorem dX5_sendOne_23 : decode cX5_sendOne 23 = .ok (.iconst 0, 1) := by decide +kernel
theorem dX5_sendOne_24 : decode cX5_sendOne 24 = .ok (.istore 4, 2) := by decide +kernel
theorem dX5_sendOne_26 : decode cX5_sendOne 26 = .ok (.aload_n 0, 1) := by decide +kernel
theorem dX5_sendOne_27 : decode cX5_sendOne 27 = .ok (.iconst 0, 1) := by decide +kernel
theorem dX5_sendOne_28 : decode cX5_sendOne 28 = .ok (.iload_n 2, 1) := by decide +kernel
theorem dX5_sendOne_29 : decode cX5_sendOne 29 = .ok (.iload_n 3, 1) := by decide +kernel
theorem dX5_sendOne_30 : decode cX5_sendOne 30 = .ok (.invokevirtual 49, 3) := by decide +kernel
theorem dX5_sendOne_33 : decode cX5_sendOne 33 = .ok (.iload 4, 2) := by decide +kernel
theorem dX5_sendOne_35 : decode cX5_sendOne 35 = .ok (.iconst 1, 1) := by decide +kernel
theorem dX5_sendOne_36 : decode cX5_sendOne 36 = .ok (.iadd, 1) := by decide +kernel
theorem dX5_sendOne_37 : decode cX5_sendOne 37 = .ok (.aload_n 0, 1) := by decide +kernel
theorem dX5_sendOne_38 : decode cX5_sendOne 38 = .ok (.getfield 7, 3) := by decide +kernel
theorem dX5_sendOne_41 : decode cX5_sendOne 41 = .ok (.iconst 0, 1) := by decide +kernel
theorem dX5_sendOne_42 : decode cX5_sendOne 42 = .ok (.iaload, 1) := by decide +kernel
theorem dX5_sendOne_43 : decode cX5_sendOne 43 = .ok (.if_icmp .ge 36, 3) := by decide +kernel
theorem dX5_sendOne_46 : decode cX5_sendOne 46 = .ok (.aload_n 0, 1) := by decide +kernel
theorem dX5_sendOne_47 : decode cX5_sendOne 47 = .ok (.iload 4, 2) := by decide +kernel
theorem dX5_sendOne_49 : decode cX5_sendOne 49 = .ok (.iload_n 1, 1) := by decide +kernel
theorem dX5_sendOne_50 : decode cX5_sendOne 50 = .ok (.invokevirtual 53, 3) := by decide +kernel
theorem dX5_sendOne_53 : decode cX5_sendOne 53 = .ok (.ifCond .ne 26, 3) := by decide +kernel
theorem dX5_sendOne_56 : decode cX5_sendOne 56 = .ok (.aload_n 0, 1) := by decide +kernel
theorem dX5_sendOne_57 : decode cX5_sendOne 57 = .ok (.iload 4, 2) := by decide +kernel
theorem dX5_sendOne_59 : decode cX5_sendOne 59 = .ok (.iconst 0, 1) := by decide +kernel
theorem dX5_sendOne_60 : decode cX5_sendOne 60 = .ok (.iload_n 3, 1) := by decide +kernel
theorem dX5_sendOne_61 : decode cX5_sendOne 61 = .ok (.invokevirtual 56, 3) := by decide +kernel
theorem dX5_sendOne_64 : decode cX5_sendOne 64 = .ok (.istore_n 3, 1) := by decide +kernel
theorem dX5_sendOne_65 : decode cX5_sendOne 65 = .ok (.iinc 4 1, 3) := by decide +kernel
theorem dX5_sendOne_68 : decode cX5_sendOne 68 = .ok (.aload_n 0, 1) := by decide +kernel
theorem dX5_sendOne_69 : decode cX5_sendOne 69 = .ok (.iload 4, 2) := by decide +kernel
theorem dX5_sendOne_71 : decode cX5_sendOne 71 = .ok (.iload_n 2, 1) := by decide +kernel
theorem dX5_sendOne_72 : decode cX5_sendOne 72 = .ok (.iload_n 3, 1) := by decide +kernel
theorem dX5_sendOne_73 : decode cX5_sendOne 73 = .ok (.invokevirtual 49, 3) := by decide +kernel
theorem dX5_sendOne_76 : decode cX5_sendOne 76 = .ok (.goto (-43), 3) := by decide +kernel
theorem dX5_sendOne_79 : decode cX5_sendOne 79 = .ok (.aload_n 0, 1) := by decide +kernel
theorem dX5_sendOne_80 : decode cX5_sendOne 80 = .ok (.getfield 7, 3) := by decide +kernel
theorem dX5_sendOne_83 : decode cX5_sendOne 83 = .ok (.iconst 2, 1) := by decide +kernel
theorem dX5_sendOne_84 : decode cX5_sendOne 84 = .ok (.dup2, 1) := by decide +kernel
theorem dX5_sendOne_85 : decode cX5_sendOne 85 = .ok (.iaload, 1) := by decide +kernel
theorem dX5_sendOne_86 : decode cX5_sendOne 86 = .ok (.iconst 1, 1) := by decide +kernel
theorem dX5_sendOne_87 : decode cX5_sendOne 87 = .ok (.iadd, 1) := by decide +kernel
theorem dX5_sendOne_88 : decode cX5_sendOne 88 = .ok (.iastore, 1) := by decide +kernel
theorem dX5_sendOne_89 : decode cX5_sendOne 89 = .ok (.aload_n 0, 1) := by decide +kernel
theorem dX5_sendOne_90 : decode cX5_sendOne 90 = .ok (.getfield 7, 3) := by decide +kernel
theorem dX5_sendOne_93 : decode cX5_sendOne 93 = .ok (.iconst 1, 1) := by decide +kernel
theorem dX5_sendOne_94 : decode cX5_sendOne 94 = .ok (.dup2, 1) := by decide +kernel
theorem dX5_sendOne_95 : decode cX5_sendOne 95 = .ok (.iaload, 1) := by decide +kernel
theorem dX5_sendOne_96 : decode cX5_sendOne 96 = .ok (.iconst 1, 1) := by decide +kernel
theorem dX5_sendOne_97 : decode cX5_sendOne 97 = .ok (.iadd, 1) := by decide +kernel
theorem dX5_sendOne_98 : decode cX5_sendOne 98 = .ok (.iastore, 1) := by decide +kernel
theorem dX5_sendOne_99 : decode cX5_sendOne 99 = .ok (.iload 4, 2) := by decide +kernel
theorem dX5_sendOne_101 : decode cX5_sendOne 101 = .ok (.iconst 1, 1) := by decide +kernel
theorem dX5_sendOne_102 : decode cX5_sendOne 102 = .ok (.iadd, 1) := by decide +kernel
theorem dX5_sendOne_103 : decode cX5_sendOne 103 = .ok (.aload_n 0, 1) := by decide +kernel
theorem dX5_sendOne_104 : decode cX5_sendOne 104 = .ok (.getfield 7, 3) := by decide +kernel
theorem dX5_sendOne_107 : decode cX5_sendOne 107 = .ok (.iconst 0, 1) := by decide +kernel
theorem dX5_sendOne_108 : decode cX5_sendOne 108 = .ok (.iaload, 1) := by decide +kernel
theorem dX5_sendOne_109 : decode cX5_sendOne 109 = .ok (.if_icmp .ne 7, 3) := by decide +kernel
theorem dX5_sendOne_112 : decode cX5_sendOne 112 = .ok (.iconst 1, 1) := by decide +kernel
theorem dX5_sendOne_113 : decode cX5_sendOne 113 = .ok (.goto 4, 3) := by decide +kernel
theorem dX5_sendOne_116 : decode cX5_sendOne 116 = .ok (.iconst 0, 1) := by decide +kernel
theorem dX5_sendOne_117 : decode cX5_sendOne 117 = .ok (.ireturn, 1) := by decide +kernel
set_option maxRecDepth 20000 in
theorem ggX5_send_X5_in : GoodIn wsX5_send wsX5_in := goodIn_r _ [5] (by decide +kernel) (by decide +kernel)
set_option maxRecDepth 20000 in
theorem gX5_send_X5_in : GoodIn wsX5_send (va_wsS RX5 27 yX5_in wsX5_in) := goodIn_app (goodIn_of _ (by decide +kernel)) ggX5_send_X5_in
set_option maxRecDepth 20000 in
theorem ggX5_send_X5_sendOne : GoodIn wsX5_send wsX5_sendOne := goodIn_r _ [9, 1, 10, 11, 12, 4, 13, 14, 15, 16, 17, 18, 19, 20, 21, 22, 23, 24, 25, 26, 27, 28, 29] (by decide +kernel) (by decide +kernel)
set_option maxRecDepth 20000 in
theorem gX5_send_X5_sendOne : GoodIn wsX5_send (wsV RX5 60 RX5 yX5_sendOne wsX5_sendOne) := goodIn_app (goodIn_of _ (by decide +kernel)) ggX5_send_X5_sendOne
theorem dX5_send_0 : decode cX5_send 0 = .ok (.iload_n 1, 1) := by decide +kernel
theorem dX5_send_1 : decode cX5_send 1 = .ok (.iconst 1, 1) := by decide +kernel
theorem dX5_send_2 : decode cX5_send 2 = .ok (.bipush 60, 2) := by decide +kernel
theorem dX5_send_4 : decode cX5_send 4 = .ok (.invokestatic 27, 3) := by decide +kernel
theorem dX5_send_7 : decode cX5_send 7 = .ok (.ifCond .ne 6, 3) := by decide +kernel
theorem dX5_send_10 : decode cX5_send 10 = .ok (.bipush (-2), 2) := by decide +kernel
theorem dX5_send_12 : decode cX5_send 12 = .ok (.ireturn, 1) := by decide +kernel
theorem dX5_send_13 : decode cX5_send 13 = .ok (.aload_n 0, 1) := by decide +kernel
theorem dX5_send_14 : decode cX5_send 14 = .ok (.getfield 7, 3) := by decide +kernel
theorem dX5_send_17 : decode cX5_send 17 = .ok (.iconst 2, 1) := by decide +kernel
theorem dX5_send_18 : decode cX5_send 18 = .ok (.iaload, 1) := by decide +kernel
theorem dX5_send_19 : decode cX5_send 19 = .ok (.iload_n 1, 1) := by decide +kernel
theorem dX5_send_20 : decode cX5_send 20 = .ok (.iadd, 1) := by decide +kernel
theorem dX5_send_21 : decode cX5_send 21 = .ok (.sipush 200, 3) := by decide +kernel
theorem dX5_send_24 : decode cX5_send 24 = .ok (.if_icmp .gt 17, 3) := by decide +kernel
theorem dX5_send_27 : decode cX5_send 27 = .ok (.aload_n 0, 1) := by decide +kernel
theorem dX5_send_28 : decode cX5_send 28 = .ok (.getfield 7, 3) := by decide +kernel
theorem dX5_send_31 : decode cX5_send 31 = .ok (.iconst 1, 1) := by decide +kernel
theorem dX5_send_32 : decode cX5_send 32 = .ok (.iaload, 1) := by decide +kernel
theorem dX5_send_33 : decode cX5_send 33 = .ok (.iload_n 1, 1) := by decide +kernel
theorem dX5_send_34 : decode cX5_send 34 = .ok (.iadd, 1) := by decide +kernel
theorem dX5_send_35 : decode cX5_send 35 = .ok (.sipush 9999, 3) := by decide +kernel
theorem dX5_send_38 : decode cX5_send 38 = .ok (.if_icmp .le 6, 3) := by decide +kernel
theorem dX5_send_41 : decode cX5_send 41 = .ok (.bipush (-4), 2) := by decide +kernel
theorem dX5_send_43 : decode cX5_send 43 = .ok (.ireturn, 1) := by decide +kernel
theorem dX5_send_44 : decode cX5_send 44 = .ok (.iconst 0, 1) := by decide +kernel
theorem dX5_send_45 : decode cX5_send 45 = .ok (.istore_n 2, 1) := by decide +kernel
theorem dX5_send_46 : decode cX5_send 46 = .ok (.iconst 0, 1) := by decide +kernel
theorem dX5_send_47 : decode cX5_send 47 = .ok (.istore_n 3, 1) := by decide +kernel
theorem dX5_send_48 : decode cX5_send 48 = .ok (.iload_n 3, 1) := by decide +kernel
theorem dX5_send_49 : decode cX5_send 49 = .ok (.iload_n 1, 1) := by decide +kernel
theorem dX5_send_50 : decode cX5_send 50 = .ok (.if_icmp .ge 24, 3) := by decide +kernel
theorem dX5_send_53 : decode cX5_send 53 = .ok (.iload_n 2, 1) := by decide +kernel
theorem dX5_send_54 : decode cX5_send 54 = .ok (.aload_n 0, 1) := by decide +kernel
theorem dX5_send_55 : decode cX5_send 55 = .ok (.invokevirtual 60, 3) := by decide +kernel
theorem dX5_send_58 : decode cX5_send 58 = .ok (.ifCond .eq 7, 3) := by decide +kernel
theorem dX5_send_61 : decode cX5_send 61 = .ok (.iconst 1, 1) := by decide +kernel
theorem dX5_send_62 : decode cX5_send 62 = .ok (.goto 4, 3) := by decide +kernel
theorem dX5_send_65 : decode cX5_send 65 = .ok (.iconst 0, 1) := by decide +kernel
theorem dX5_send_66 : decode cX5_send 66 = .ok (.iadd, 1) := by decide +kernel
theorem dX5_send_67 : decode cX5_send 67 = .ok (.istore_n 2, 1) := by decide +kernel
theorem dX5_send_68 : decode cX5_send 68 = .ok (.iinc 3 1, 3) := by decide +kernel
theorem dX5_send_71 : decode cX5_send 71 = .ok (.goto (-23), 3) := by decide +kernel
theorem dX5_send_74 : decode cX5_send 74 = .ok (.iload_n 2, 1) := by decide +kernel
theorem dX5_send_75 : decode cX5_send 75 = .ok (.ireturn, 1) := by decide +kernel
theorem dX5_countOf_0 : decode cX5_countOf 0 = .ok (.aload_n 0, 1) := by decide +kernel
theorem dX5_countOf_1 : decode cX5_countOf 1 = .ok (.getfield 7, 3) := by decide +kernel
theorem dX5_countOf_4 : decode cX5_countOf 4 = .ok (.bipush 108, 2) := by decide +kernel
theorem dX5_countOf_6 : decode cX5_countOf 6 = .ok (.sipush 200, 3) := by decide +kernel
theorem dX5_countOf_9 : decode cX5_countOf 9 = .ok (.iload_n 1, 1) := by decide +kernel
theorem dX5_countOf_10 : decode cX5_countOf 10 = .ok (.imul, 1) := by decide +kernel
theorem dX5_countOf_11 : decode cX5_countOf 11 = .ok (.iadd, 1) := by decide +kernel
theorem dX5_countOf_12 : decode cX5_countOf 12 = .ok (.iload_n 2, 1) := by decide +kernel
theorem dX5_countOf_13 : decode cX5_countOf 13 = .ok (.iadd, 1) := by decide +kernel
theorem dX5_countOf_14 : decode cX5_countOf 14 = .ok (.iaload, 1) := by decide +kernel
theorem dX5_countOf_15 : decode cX5_countOf 15 = .ok (.ireturn, 1) := by decide +kernel
theorem dX5_sumOf_0 : decode cX5_sumOf 0 = .ok (.aload_n 0, 1) := by decide +kernel
theorem dX5_sumOf_1 : decode cX5_sumOf 1 = .ok (.getfield 7, 3) := by decide +kernel
theorem dX5_sumOf_4 : decode cX5_sumOf 4 = .ok (.sipush 1108, 3) := by decide +kernel
theorem dX5_sumOf_7 : decode cX5_sumOf 7 = .ok (.sipush 200, 3) := by decide +kernel
theorem dX5_sumOf_10 : decode cX5_sumOf 10 = .ok (.iload_n 1, 1) := by decide +kernel
theorem dX5_sumOf_11 : decode cX5_sumOf 11 = .ok (.imul, 1) := by decide +kernel
theorem dX5_sumOf_12 : decode cX5_sumOf 12 = .ok (.iadd, 1) := by decide +kernel
theorem dX5_sumOf_13 : decode cX5_sumOf 13 = .ok (.iload_n 2, 1) := by decide +kernel
theorem dX5_sumOf_14 : decode cX5_sumOf 14 = .ok (.iadd, 1) := by decide +kernel
theorem dX5_sumOf_15 : decode cX5_sumOf 15 = .ok (.iaload, 1) := by decide +kernel
theorem dX5_sumOf_16 : decode cX5_sumOf 16 = .ok (.ireturn, 1) := by decide +kernel
set_option maxRecDepth 20000 in
theorem ggX5_kept_X5_isNode : GoodIn wsX5_kept wsX5_isNode := goodIn_r _ [7, 8, 9, 10, 6, 11, 23, 24, 25, 26] (by decide +kernel) (by decide +kernel)
set_option maxRecDepth 20000 in
theorem gX5_kept_X5_isNode : GoodIn wsX5_kept (wsV RX5 43 RX5 yX5_isNode wsX5_isNode) := goodIn_app (goodIn_of _ (by decide +kernel)) ggX5_kept_X5_isNode
set_option maxRecDepth 20000 in
theorem ggX5_kept_X5_isBlock : GoodIn wsX5_kept wsX5_isBlock := goodIn_r _ [14, 9, 10, 6, 11] (by decide +kernel) (by decide +kernel)
set_option maxRecDepth 20000 in
theorem gX5_kept_X5_isBlock : GoodIn wsX5_kept (va_wsS RX5 64 yX5_isBlock wsX5_isBlock) := goodIn_app (goodIn_of _ (by decide +kernel)) ggX5_kept_X5_isBlock
set_option maxRecDepth 20000 in
theorem ggX5_kept_X5_in : GoodIn wsX5_kept wsX5_in := goodIn_r _ [11] (by decide +kernel) (by decide +kernel)
set_option maxRecDepth 20000 in
theorem gX5_kept_X5_in : GoodIn wsX5_kept (va_wsS RX5 27 yX5_in wsX5_in) := goodIn_app (goodIn_of _ (by decide +kernel)) ggX5_kept_X5_in
set_option maxRecDepth 20000 in
theorem ggX5_kept_X5_countOf : GoodIn wsX5_kept wsX5_countOf := goodIn_r _ [18, 8, 23, 24, 25, 26] (by decide +kernel) (by decide +kernel)
set_option maxRecDepth 20000 in
theorem gX5_kept_X5_countOf : GoodIn wsX5_kept (wsV RX5 67 RX5 yX5_countOf wsX5_countOf) := goodIn_app (goodIn_of _ (by decide +kernel)) ggX5_kept_X5_countOf
set_option maxRecDepth 20000 in
theorem ggX5_kept_X5_sumOf : GoodIn wsX5_kept wsX5_sumOf := goodIn_r _ [22, 8, 23, 24, 25, 26] (by decide +kernel) (by decide +kernel)
set_option maxRecDepth 20000 in
theorem gX5_kept_X5_sumOf : GoodIn wsX5_kept (wsV RX5 70 RX5 yX5_sumOf wsX5_sumOf) := goodIn_app (goodIn_of _ (by decide +kernel)) ggX5_kept_X5_sumOf
theorem dX5_kept_0 : decode cX5_kept 0 = .ok (.aload_n 0, 1) := by decide +kernel
theorem dX5_kept_1 : decode cX5_kept 1 = .ok (.iload_n 1, 1) := by decide +kernel
theorem dX5_kept_2 : decode cX5_kept 2 = .ok (.invokevirtual 43, 3) := by decide +kernel
theorem dX5_kept_5 : decode cX5_kept 5 = .ok (.ifCond .ne 6, 3) := by decide +kernel
theorem dX5_kept_8 : decode cX5_kept 8 = .ok (.ldc 46, 2) := by decide +kernel
theorem dX5_kept_10 : decode cX5_kept 10 = .ok (.ireturn, 1) := by decide +kernel
theorem dX5_kept_11 : decode cX5_kept 11 = .ok (.iload_n 2, 1) := by decide +kernel
theorem dX5_kept_12 : decode cX5_kept 12 = .ok (.invokestatic 64, 3) := by decide +kernel
theorem dX5_kept_15 : decode cX5_kept 15 = .ok (.ifCond .eq 12, 3) := by decide +kernel
theorem dX5_kept_18 : decode cX5_kept 18 = .ok (.iload_n 3, 1) := by decide +kernel
theorem dX5_kept_19 : decode cX5_kept 19 = .ok (.iconst 0, 1) := by decide +kernel
theorem dX5_kept_20 : decode cX5_kept 20 = .ok (.iconst 1, 1) := by decide +kernel
theorem dX5_kept_21 : decode cX5_kept 21 = .ok (.invokestatic 27, 3) := by decide +kernel
theorem dX5_kept_24 : decode cX5_kept 24 = .ok (.ifCond .ne 6, 3) := by decide +kernel
theorem dX5_kept_27 : decode cX5_kept 27 = .ok (.ldc 47, 2) := by decide +kernel
theorem dX5_kept_29 : decode cX5_kept 29 = .ok (.ireturn, 1) := by decide +kernel
theorem dX5_kept_30 : decode cX5_kept 30 = .ok (.iload_n 3, 1) := by decide +kernel
theorem dX5_kept_31 : decode cX5_kept 31 = .ok (.ifCond .ne 12, 3) := by decide +kernel
theorem dX5_kept_34 : decode cX5_kept 34 = .ok (.aload_n 0, 1) := by decide +kernel
theorem dX5_kept_35 : decode cX5_kept 35 = .ok (.iload_n 1, 1) := by decide +kernel
theorem dX5_kept_36 : decode cX5_kept 36 = .ok (.iload_n 2, 1) := by decide +kernel
theorem dX5_kept_37 : decode cX5_kept 37 = .ok (.invokevirtual 67, 3) := by decide +kernel
theorem dX5_kept_40 : decode cX5_kept 40 = .ok (.goto 9, 3) := by decide +kernel
theorem dX5_kept_43 : decode cX5_kept 43 = .ok (.aload_n 0, 1) := by decide +kernel
theorem dX5_kept_44 : decode cX5_kept 44 = .ok (.iload_n 1, 1) := by decide +kernel
theorem dX5_kept_45 : decode cX5_kept 45 = .ok (.iload_n 2, 1) := by decide +kernel
theorem dX5_kept_46 : decode cX5_kept 46 = .ok (.invokevirtual 70, 3) := by decide +kernel
theorem dX5_kept_49 : decode cX5_kept 49 = .ok (.ireturn, 1) := by decide +kernel
set_option maxRecDepth 20000 in
theorem ggX5_lostOf_X5_countOf : GoodIn wsX5_lostOf wsX5_countOf := goodIn_r _ [5, 6, 7, 8, 9, 10] (by decide +kernel) (by decide +kernel)
set_option maxRecDepth 20000 in
theorem gX5_lostOf_X5_countOf : GoodIn wsX5_lostOf (wsV RX5 67 RX5 yX5_countOf wsX5_countOf) := goodIn_app (goodIn_of _ (by decide +kernel)) ggX5_lostOf_X5_countOf
theorem dX5_lostOf_0 : decode cX5_lostOf 0 = .ok (.aload_n 0, 1) := by decide +kernel
theorem dX5_lostOf_1 : decode cX5_lostOf 1 = .ok (.iload_n 1, 1) := by decide +kernel
theorem dX5_lostOf_2 : decode cX5_lostOf 2 = .ok (.iload_n 2, 1) := by decide +kernel
theorem dX5_lostOf_3 : decode cX5_lostOf 3 = .ok (.invokevirtual 67, 3) := by decide +kernel
theorem dX5_lostOf_6 : decode cX5_lostOf 6 = .ok (.aload_n 0, 1) := by decide +kernel
theorem dX5_lostOf_7 : decode cX5_lostOf 7 = .ok (.iload_n 1, 1) := by decide +kernel
theorem dX5_lostOf_8 : decode cX5_lostOf 8 = .ok (.iconst 1, 1) := by decide +kernel
theorem dX5_lostOf_9 : decode cX5_lostOf 9 = .ok (.iadd, 1) := by decide +kernel
theorem dX5_lostOf_10 : decode cX5_lostOf 10 = .ok (.iload_n 2, 1) := by decide +kernel
theorem dX5_lostOf_11 : decode cX5_lostOf 11 = .ok (.invokevirtual 67, 3) := by decide +kernel
theorem dX5_lostOf_14 : decode cX5_lostOf 14 = .ok (.isub, 1) := by decide +kernel
theorem dX5_lostOf_15 : decode cX5_lostOf 15 = .ok (.ireturn, 1) := by decide +kernel
set_option maxRecDepth 20000 in
theorem ggX5_lost_X5_isLink : GoodIn wsX5_lost wsX5_isLink := goodIn_r _ [5, 6, 7, 8, 4, 9, 18, 19, 20, 21] (by decide +kernel) (by decide +kernel)
set_option maxRecDepth 20000 in
theorem gX5_lost_X5_isLink : GoodIn wsX5_lost (wsV RX5 31 RX5 yX5_isLink wsX5_isLink) := goodIn_app (goodIn_of _ (by decide +kernel)) ggX5_lost_X5_isLink
set_option maxRecDepth 20000 in
theorem ggX5_lost_X5_in : GoodIn wsX5_lost wsX5_in := goodIn_r _ [9] (by decide +kernel) (by decide +kernel)
set_option maxRecDepth 20000 in
theorem gX5_lost_X5_in : GoodIn wsX5_lost (va_wsS RX5 27 yX5_in wsX5_in) := goodIn_app (goodIn_of _ (by decide +kernel)) ggX5_lost_X5_in
set_option maxRecDepth 20000 in
theorem ggX5_lost_X5_lostOf : GoodIn wsX5_lost wsX5_lostOf := goodIn_r _ [13, 14, 15, 16, 4, 17, 6, 18, 19, 20, 21] (by decide +kernel) (by decide +kernel)
set_option maxRecDepth 20000 in
theorem gX5_lost_X5_lostOf : GoodIn wsX5_lost (wsV RX5 73 RX5 yX5_lostOf wsX5_lostOf) := goodIn_app (goodIn_of _ (by decide +kernel)) ggX5_lost_X5_lostOf
theorem dX5_lost_0 : decode cX5_lost 0 = .ok (.aload_n 0, 1) := by decide +kernel
theorem dX5_lost_1 : decode cX5_lost 1 = .ok (.iload_n 1, 1) := by decide +kernel
theorem dX5_lost_2 : decode cX5_lost 2 = .ok (.invokevirtual 31, 3) := by decide +kernel
theorem dX5_lost_5 : decode cX5_lost 5 = .ok (.ifCond .ne 5, 3) := by decide +kernel
theorem dX5_lost_8 : decode cX5_lost 8 = .ok (.iconst (-1), 1) := by decide +kernel
theorem dX5_lost_9 : decode cX5_lost 9 = .ok (.ireturn, 1) := by decide +kernel
theorem dX5_lost_10 : decode cX5_lost 10 = .ok (.iload_n 2, 1) := by decide +kernel
theorem dX5_lost_11 : decode cX5_lost 11 = .ok (.iconst (-1), 1) := by decide +kernel
theorem dX5_lost_12 : decode cX5_lost 12 = .ok (.sipush 199, 3) := by decide +kernel
theorem dX5_lost_15 : decode cX5_lost 15 = .ok (.invokestatic 27, 3) := by decide +kernel
theorem dX5_lost_18 : decode cX5_lost 18 = .ok (.ifCond .ne 6, 3) := by decide +kernel
theorem dX5_lost_21 : decode cX5_lost 21 = .ok (.bipush (-2), 2) := by decide +kernel
theorem dX5_lost_23 : decode cX5_lost 23 = .ok (.ireturn, 1) := by decide +kernel
theorem dX5_lost_24 : decode cX5_lost 24 = .ok (.iconst 0, 1) := by decide +kernel
theorem dX5_lost_25 : decode cX5_lost 25 = .ok (.istore_n 3, 1) := by decide +kernel
theorem dX5_lost_26 : decode cX5_lost 26 = .ok (.iload_n 2, 1) := by decide +kernel
theorem dX5_lost_27 : decode cX5_lost 27 = .ok (.ifCond .ge 7, 3) := by decide +kernel
theorem dX5_lost_30 : decode cX5_lost 30 = .ok (.iconst 0, 1) := by decide +kernel
theorem dX5_lost_31 : decode cX5_lost 31 = .ok (.goto 4, 3) := by decide +kernel
theorem dX5_lost_34 : decode cX5_lost 34 = .ok (.iload_n 2, 1) := by decide +kernel
theorem dX5_lost_35 : decode cX5_lost 35 = .ok (.istore 4, 2) := by decide +kernel
theorem dX5_lost_37 : decode cX5_lost 37 = .ok (.iload 4, 2) := by decide +kernel
theorem dX5_lost_39 : decode cX5_lost 39 = .ok (.iload_n 2, 1) := by decide +kernel
theorem dX5_lost_40 : decode cX5_lost 40 = .ok (.ifCond .ge 9, 3) := by decide +kernel
theorem dX5_lost_43 : decode cX5_lost 43 = .ok (.sipush 199, 3) := by decide +kernel
theorem dX5_lost_46 : decode cX5_lost 46 = .ok (.goto 4, 3) := by decide +kernel
theorem dX5_lost_49 : decode cX5_lost 49 = .ok (.iload_n 2, 1) := by decide +kernel
theorem dX5_lost_50 : decode cX5_lost 50 = .ok (.if_icmp .gt 19, 3) := by decide +kernel
theorem dX5_lost_53 : decode cX5_lost 53 = .ok (.iload_n 3, 1) := by decide +kernel
theorem dX5_lost_54 : decode cX5_lost 54 = .ok (.aload_n 0, 1) := by decide +kernel
theorem dX5_lost_55 : decode cX5_lost 55 = .ok (.iload_n 1, 1) := by decide +kernel
theorem dX5_lost_56 : decode cX5_lost 56 = .ok (.iload 4, 2) := by decide +kernel
theorem dX5_lost_58 : decode cX5_lost 58 = .ok (.invokevirtual 73, 3) := by decide +kernel
theorem dX5_lost_61 : decode cX5_lost 61 = .ok (.iadd, 1) := by decide +kernel
theorem dX5_lost_62 : decode cX5_lost 62 = .ok (.istore_n 3, 1) := by decide +kernel
theorem dX5_lost_63 : decode cX5_lost 63 = .ok (.iinc 4 1, 3) := by decide +kernel
theorem dX5_lost_66 : decode cX5_lost 66 = .ok (.goto (-29), 3) := by decide +kernel
theorem dX5_lost_69 : decode cX5_lost 69 = .ok (.iload_n 3, 1) := by decide +kernel
theorem dX5_lost_70 : decode cX5_lost 70 = .ok (.ireturn, 1) := by decide +kernel
theorem dX5_common_0 : decode cX5_common 0 = .ok (.iload_n 0, 1) := by decide +kernel
theorem dX5_common_1 : decode cX5_common 1 = .ok (.istore_n 2, 1) := by decide +kernel
theorem dX5_common_2 : decode cX5_common 2 = .ok (.iload_n 1, 1) := by decide +kernel
theorem dX5_common_3 : decode cX5_common 3 = .ok (.ifCond .ge 8, 3) := by decide +kernel
theorem dX5_common_6 : decode cX5_common 6 = .ok (.iload_n 1, 1) := by decide +kernel
theorem dX5_common_7 : decode cX5_common 7 = .ok (.ineg, 1) := by decide +kernel
theorem dX5_common_8 : decode cX5_common 8 = .ok (.goto 4, 3) := by decide +kernel
theorem dX5_common_11 : decode cX5_common 11 = .ok (.iload_n 1, 1) := by decide +kernel
theorem dX5_common_12 : decode cX5_common 12 = .ok (.istore_n 3, 1) := by decide +kernel
theorem dX5_common_13 : decode cX5_common 13 = .ok (.iload_n 3, 1) := by decide +kernel
theorem dX5_common_14 : decode cX5_common 14 = .ok (.ifCond .eq 16, 3) := by decide +kernel
theorem dX5_common_17 : decode cX5_common 17 = .ok (.iload_n 2, 1) := by decide +kernel
theorem dX5_common_18 : decode cX5_common 18 = .ok (.iload_n 3, 1) := by decide +kernel
theorem dX5_common_19 : decode cX5_common 19 = .ok (.irem, 1) := by decide +kernel
theorem dX5_common_20 : decode cX5_common 20 = .ok (.istore 4, 2) := by decide +kernel
theorem dX5_common_22 : decode cX5_common 22 = .ok (.iload_n 3, 1) := by decide +kernel
theorem dX5_common_23 : decode cX5_common 23 = .ok (.istore_n 2, 1) := by decide +kernel
theorem dX5_common_24 : decode cX5_common 24 = .ok (.iload 4, 2) := by decide +kernel
theorem dX5_common_26 : decode cX5_common 26 = .ok (.istore_n 3, 1) := by decide +kernel
theorem dX5_common_27 : decode cX5_common 27 = .ok (.goto (-14), 3) := by decide +kernel
theorem dX5_common_30 : decode cX5_common 30 = .ok (.iload_n 2, 1) := by decide +kernel
theorem dX5_common_31 : decode cX5_common 31 = .ok (.ireturn, 1) := by decide +kernel
set_option maxRecDepth 20000 in
theorem ggX5_told_X5_common : GoodIn wsX5_told wsX5_common := goodIn_r _ [4] (by decide +kernel) (by decide +kernel)
set_option maxRecDepth 20000 in
theorem gX5_told_X5_common : GoodIn wsX5_told (va_wsS RX5 76 yX5_common wsX5_common) := goodIn_app (goodIn_of _ (by decide +kernel)) ggX5_told_X5_common
theorem dX5_told_0 : decode cX5_told 0 = .ok (.iload_n 1, 1) := by decide +kernel
theorem dX5_told_1 : decode cX5_told 1 = .ok (.iload_n 0, 1) := by decide +kernel
theorem dX5_told_2 : decode cX5_told 2 = .ok (.invokestatic 76, 3) := by decide +kernel
theorem dX5_told_5 : decode cX5_told 5 = .ok (.istore_n 3, 1) := by decide +kernel
theorem dX5_told_6 : decode cX5_told 6 = .ok (.iload_n 2, 1) := by decide +kernel
theorem dX5_told_7 : decode cX5_told 7 = .ok (.ifCond .ne 9, 3) := by decide +kernel
theorem dX5_told_10 : decode cX5_told 10 = .ok (.iload_n 0, 1) := by decide +kernel
theorem dX5_told_11 : decode cX5_told 11 = .ok (.iload_n 3, 1) := by decide +kernel
theorem dX5_told_12 : decode cX5_told 12 = .ok (.idiv, 1) := by decide +kernel
theorem dX5_told_13 : decode cX5_told 13 = .ok (.goto 6, 3) := by decide +kernel
theorem dX5_told_16 : decode cX5_told 16 = .ok (.iload_n 1, 1) := by decide +kernel
theorem dX5_told_17 : decode cX5_told 17 = .ok (.iload_n 3, 1) := by decide +kernel
theorem dX5_told_18 : decode cX5_told 18 = .ok (.idiv, 1) := by decide +kernel
theorem dX5_told_19 : decode cX5_told 19 = .ok (.ireturn, 1) := by decide +kernel
set_option maxRecDepth 20000 in
theorem ggX5_isTaken_X5_countOf : GoodIn wsX5_isTaken wsX5_countOf := goodIn_r _ [5, 6, 7, 8, 9, 10] (by decide +kernel) (by decide +kernel)
set_option maxRecDepth 20000 in
theorem gX5_isTaken_X5_countOf : GoodIn wsX5_isTaken (wsV RX5 67 RX5 yX5_countOf wsX5_countOf) := goodIn_app (goodIn_of _ (by decide +kernel)) ggX5_isTaken_X5_countOf
theorem dX5_isTaken_0 : decode cX5_isTaken 0 = .ok (.aload_n 0, 1) := by decide +kernel
theorem dX5_isTaken_1 : decode cX5_isTaken 1 = .ok (.iload_n 2, 1) := by decide +kernel
theorem dX5_isTaken_2 : decode cX5_isTaken 2 = .ok (.iload_n 3, 1) := by decide +kernel
theorem dX5_isTaken_3 : decode cX5_isTaken 3 = .ok (.invokevirtual 67, 3) := by decide +kernel
theorem dX5_isTaken_6 : decode cX5_isTaken 6 = .ok (.ifCond .le 22, 3) := by decide +kernel
theorem dX5_isTaken_9 : decode cX5_isTaken 9 = .ok (.aload_n 0, 1) := by decide +kernel
theorem dX5_isTaken_10 : decode cX5_isTaken 10 = .ok (.iload_n 1, 1) := by decide +kernel
theorem dX5_isTaken_11 : decode cX5_isTaken 11 = .ok (.iload_n 3, 1) := by decide +kernel
theorem dX5_isTaken_12 : decode cX5_isTaken 12 = .ok (.invokevirtual 67, 3) := by decide +kernel
theorem dX5_isTaken_15 : decode cX5_isTaken 15 = .ok (.aload_n 0, 1) := by decide +kernel
theorem dX5_isTaken_16 : decode cX5_isTaken 16 = .ok (.iload_n 2, 1) := by decide +kernel
theorem dX5_isTaken_17 : decode cX5_isTaken 17 = .ok (.iload_n 3, 1) := by decide +kernel
theorem dX5_isTaken_18 : decode cX5_isTaken 18 = .ok (.invokevirtual 67, 3) := by decide +kernel
theorem dX5_isTaken_21 : decode cX5_isTaken 21 = .ok (.if_icmp .ne 7, 3) := by decide +kernel
theorem dX5_isTaken_24 : decode cX5_isTaken 24 = .ok (.iconst 1, 1) := by decide +kernel
theorem dX5_isTaken_25 : decode cX5_isTaken 25 = .ok (.goto 4, 3) := by decide +kernel
theorem dX5_isTaken_28 : decode cX5_isTaken 28 = .ok (.iconst 0, 1) := by decide +kernel
theorem dX5_isTaken_29 : decode cX5_isTaken 29 = .ok (.ireturn, 1) := by decide +kernel
set_option maxRecDepth 20000 in
theorem ggX5_took_X5_isNode : GoodIn wsX5_took wsX5_isNode := goodIn_r _ [8, 9, 10, 11, 7, 12, 34, 35, 36, 37] (by decide +kernel) (by decide +kernel)
set_option maxRecDepth 20000 in
theorem gX5_took_X5_isNode : GoodIn wsX5_took (wsV RX5 43 RX5 yX5_isNode wsX5_isNode) := goodIn_app (goodIn_of _ (by decide +kernel)) ggX5_took_X5_isNode
set_option maxRecDepth 20000 in
theorem ggX5_took_X5_isBlock : GoodIn wsX5_took wsX5_isBlock := goodIn_r _ [15, 10, 11, 7, 12] (by decide +kernel) (by decide +kernel)
set_option maxRecDepth 20000 in
theorem gX5_took_X5_isBlock : GoodIn wsX5_took (va_wsS RX5 64 yX5_isBlock wsX5_isBlock) := goodIn_app (goodIn_of _ (by decide +kernel)) ggX5_took_X5_isBlock
set_option maxRecDepth 20000 in
theorem ggX5_took_X5_in : GoodIn wsX5_took wsX5_in := goodIn_r _ [12] (by decide +kernel) (by decide +kernel)
set_option maxRecDepth 20000 in
theorem gX5_took_X5_in : GoodIn wsX5_took (va_wsS RX5 27 yX5_in wsX5_in) := goodIn_app (goodIn_of _ (by decide +kernel)) ggX5_took_X5_in
set_option maxRecDepth 20000 in
theorem ggX5_took_X5_isTaken : GoodIn wsX5_took wsX5_isTaken := goodIn_r _ [19, 20, 21, 22, 7, 23, 9, 34, 35, 36, 37] (by decide +kernel) (by decide +kernel)
set_option maxRecDepth 20000 in
theorem gX5_took_X5_isTaken : GoodIn wsX5_took (wsV RX5 79 RX5 yX5_isTaken wsX5_isTaken) := goodIn_app (goodIn_of _ (by decide +kernel)) ggX5_took_X5_isTaken
set_option maxRecDepth 20000 in
theorem ggX5_took_X5_sumOf : GoodIn wsX5_took wsX5_sumOf := goodIn_r _ [27, 9, 34, 35, 36, 37] (by decide +kernel) (by decide +kernel)
set_option maxRecDepth 20000 in
theorem gX5_took_X5_sumOf : GoodIn wsX5_took (wsV RX5 70 RX5 yX5_sumOf wsX5_sumOf) := goodIn_app (goodIn_of _ (by decide +kernel)) ggX5_took_X5_sumOf
set_option maxRecDepth 20000 in
theorem ggX5_took_X5_countOf : GoodIn wsX5_took wsX5_countOf := goodIn_r _ [23, 9, 34, 35, 36, 37] (by decide +kernel) (by decide +kernel)
set_option maxRecDepth 20000 in
theorem gX5_took_X5_countOf : GoodIn wsX5_took (wsV RX5 67 RX5 yX5_countOf wsX5_countOf) := goodIn_app (goodIn_of _ (by decide +kernel)) ggX5_took_X5_countOf
set_option maxRecDepth 20000 in
theorem ggX5_took_X5_told : GoodIn wsX5_took wsX5_told := goodIn_r _ [30, 31, 32, 7, 33] (by decide +kernel) (by decide +kernel)
set_option maxRecDepth 20000 in
theorem gX5_took_X5_told : GoodIn wsX5_took (va_wsS RX5 83 yX5_told wsX5_told) := goodIn_app (goodIn_of _ (by decide +kernel)) ggX5_took_X5_told
theorem dX5_took_0 : decode cX5_took 0 = .ok (.aload_n 0, 1) := by decide +kernel
theorem dX5_took_1 : decode cX5_took 1 = .ok (.iload_n 1, 1) := by decide +kernel
theorem dX5_took_2 : decode cX5_took 2 = .ok (.invokevirtual 43, 3) := by decide +kernel
theorem dX5_took_5 : decode cX5_took 5 = .ok (.ifCond .eq 11, 3) := by decide +kernel
theorem dX5_took_8 : decode cX5_took 8 = .ok (.aload_n 0, 1) := by decide +kernel
theorem dX5_took_9 : decode cX5_took 9 = .ok (.iload_n 2, 1) := by decide +kernel
theorem dX5_took_10 : decode cX5_took 10 = .ok (.invokevirtual 43, 3) := by decide +kernel
theorem dX5_took_13 : decode cX5_took 13 = .ok (.ifCond .ne 6, 3) := by decide +kernel
theorem dX5_took_16 : decode cX5_took 16 = .ok (.ldc 46, 2) := by decide +kernel
theorem dX5_took_18 : decode cX5_took 18 = .ok (.ireturn, 1) := by decide +kernel
theorem dX5_took_19 : decode cX5_took 19 = .ok (.iload_n 2, 1) := by decide +kernel
theorem dX5_took_20 : decode cX5_took 20 = .ok (.iload_n 1, 1) := by decide +kernel
theorem dX5_took_21 : decode cX5_took 21 = .ok (.if_icmp .le 20, 3) := by decide +kernel
theorem dX5_took_24 : decode cX5_took 24 = .ok (.iload_n 3, 1) := by decide +kernel
theorem dX5_took_25 : decode cX5_took 25 = .ok (.invokestatic 64, 3) := by decide +kernel
theorem dX5_took_28 : decode cX5_took 28 = .ok (.ifCond .eq 13, 3) := by decide +kernel
theorem dX5_took_31 : decode cX5_took 31 = .ok (.iload 4, 2) := by decide +kernel
theorem dX5_took_33 : decode cX5_took 33 = .ok (.iconst 0, 1) := by decide +kernel
theorem dX5_took_34 : decode cX5_took 34 = .ok (.iconst 1, 1) := by decide +kernel
theorem dX5_took_35 : decode cX5_took 35 = .ok (.invokestatic 27, 3) := by decide +kernel
theorem dX5_took_38 : decode cX5_took 38 = .ok (.ifCond .ne 6, 3) := by decide +kernel
theorem dX5_took_41 : decode cX5_took 41 = .ok (.ldc 47, 2) := by decide +kernel
theorem dX5_took_43 : decode cX5_took 43 = .ok (.ireturn, 1) := by decide +kernel
theorem dX5_took_44 : decode cX5_took 44 = .ok (.aload_n 0, 1) := by decide +kernel
theorem dX5_took_45 : decode cX5_took 45 = .ok (.iload_n 1, 1) := by decide +kernel
theorem dX5_took_46 : decode cX5_took 46 = .ok (.iload_n 2, 1) := by decide +kernel
theorem dX5_took_47 : decode cX5_took 47 = .ok (.iload_n 3, 1) := by decide +kernel
theorem dX5_took_48 : decode cX5_took 48 = .ok (.invokevirtual 79, 3) := by decide +kernel
theorem dX5_took_51 : decode cX5_took 51 = .ok (.ifCond .ne 6, 3) := by decide +kernel
theorem dX5_took_54 : decode cX5_took 54 = .ok (.ldc 82, 2) := by decide +kernel
theorem dX5_took_56 : decode cX5_took 56 = .ok (.ireturn, 1) := by decide +kernel
theorem dX5_took_57 : decode cX5_took 57 = .ok (.aload_n 0, 1) := by decide +kernel
theorem dX5_took_58 : decode cX5_took 58 = .ok (.iload_n 2, 1) := by decide +kernel
theorem dX5_took_59 : decode cX5_took 59 = .ok (.iload_n 3, 1) := by decide +kernel
theorem dX5_took_60 : decode cX5_took 60 = .ok (.invokevirtual 70, 3) := by decide +kernel
theorem dX5_took_63 : decode cX5_took 63 = .ok (.aload_n 0, 1) := by decide +kernel
theorem dX5_took_64 : decode cX5_took 64 = .ok (.iload_n 1, 1) := by decide +kernel
theorem dX5_took_65 : decode cX5_took 65 = .ok (.iload_n 3, 1) := by decide +kernel
theorem dX5_took_66 : decode cX5_took 66 = .ok (.invokevirtual 70, 3) := by decide +kernel
theorem dX5_took_69 : decode cX5_took 69 = .ok (.isub, 1) := by decide +kernel
theorem dX5_took_70 : decode cX5_took 70 = .ok (.aload_n 0, 1) := by decide +kernel
theorem dX5_took_71 : decode cX5_took 71 = .ok (.iload_n 2, 1) := by decide +kernel
theorem dX5_took_72 : decode cX5_took 72 = .ok (.iload_n 3, 1) := by decide +kernel
theorem dX5_took_73 : decode cX5_took 73 = .ok (.invokevirtual 67, 3) := by decide +kernel
theorem dX5_took_76 : decode cX5_took 76 = .ok (.iload 4, 2) := by decide +kernel
theorem dX5_took_78 : decode cX5_took 78 = .ok (.invokestatic 83, 3) := by decide +kernel
theorem dX5_took_81 : decode cX5_took 81 = .ok (.ireturn, 1) := by decide +kernel
set_option maxRecDepth 20000 in
theorem ggX5_lostInBlock_X5_countOf : GoodIn wsX5_lostInBlock wsX5_countOf := goodIn_r _ [6, 1, 7, 8, 9, 10] (by decide +kernel) (by decide +kernel)
set_option maxRecDepth 20000 in
theorem gX5_lostInBlock_X5_countOf : GoodIn wsX5_lostInBlock (wsV RX5 67 RX5 yX5_countOf wsX5_countOf) := goodIn_app (goodIn_of _ (by decide +kernel)) ggX5_lostInBlock_X5_countOf
theorem dX5_lostInBlock_0 : decode cX5_lostInBlock 0 = .ok (.aload_n 0, 1) := by decide +kernel
theorem dX5_lostInBlock_1 : decode cX5_lostInBlock 1 = .ok (.iconst 0, 1) := by decide +kernel
theorem dX5_lostInBlock_2 : decode cX5_lostInBlock 2 = .ok (.iload_n 1, 1) := by decide +kernel
theorem dX5_lostInBlock_3 : decode cX5_lostInBlock 3 = .ok (.invokevirtual 67, 3) := by decide +kernel
theorem dX5_lostInBlock_6 : decode cX5_lostInBlock 6 = .ok (.aload_n 0, 1) := by decide +kernel
theorem dX5_lostInBlock_7 : decode cX5_lostInBlock 7 = .ok (.aload_n 0, 1) := by decide +kernel
theorem dX5_lostInBlock_8 : decode cX5_lostInBlock 8 = .ok (.getfield 7, 3) := by decide +kernel
theorem dX5_lostInBlock_11 : decode cX5_lostInBlock 11 = .ok (.iconst 0, 1) := by decide +kernel
theorem dX5_lostInBlock_12 : decode cX5_lostInBlock 12 = .ok (.iaload, 1) := by decide +kernel
theorem dX5_lostInBlock_13 : decode cX5_lostInBlock 13 = .ok (.iconst 1, 1) := by decide +kernel
theorem dX5_lostInBlock_14 : decode cX5_lostInBlock 14 = .ok (.isub, 1) := by decide +kernel
theorem dX5_lostInBlock_15 : decode cX5_lostInBlock 15 = .ok (.iload_n 1, 1) := by decide +kernel
theorem dX5_lostInBlock_16 : decode cX5_lostInBlock 16 = .ok (.invokevirtual 67, 3) := by decide +kernel
theorem dX5_lostInBlock_19 : decode cX5_lostInBlock 19 = .ok (.isub, 1) := by decide +kernel
theorem dX5_lostInBlock_20 : decode cX5_lostInBlock 20 = .ok (.ireturn, 1) := by decide +kernel
set_option maxRecDepth 20000 in
theorem ggX5_firstLink_X5_lostOf : GoodIn wsX5_firstLink wsX5_lostOf := goodIn_r _ [5, 6, 7, 8, 4, 9, 10, 11, 12, 13, 14] (by decide +kernel) (by decide +kernel)
set_option maxRecDepth 20000 in
theorem gX5_firstLink_X5_lostOf : GoodIn wsX5_firstLink (wsV RX5 73 RX5 yX5_lostOf wsX5_lostOf) := goodIn_app (goodIn_of _ (by decide +kernel)) ggX5_firstLink_X5_lostOf
theorem dX5_firstLink_0 : decode cX5_firstLink 0 = .ok (.iconst 0, 1) := by decide +kernel
theorem dX5_firstLink_1 : decode cX5_firstLink 1 = .ok (.istore_n 2, 1) := by decide +kernel
theorem dX5_firstLink_2 : decode cX5_firstLink 2 = .ok (.aload_n 0, 1) := by decide +kernel
theorem dX5_firstLink_3 : decode cX5_firstLink 3 = .ok (.iload_n 2, 1) := by decide +kernel
theorem dX5_firstLink_4 : decode cX5_firstLink 4 = .ok (.iload_n 1, 1) := by decide +kernel
theorem dX5_firstLink_5 : decode cX5_firstLink 5 = .ok (.invokevirtual 73, 3) := by decide +kernel
theorem dX5_firstLink_8 : decode cX5_firstLink 8 = .ok (.ifCond .ne 9, 3) := by decide +kernel
theorem dX5_firstLink_11 : decode cX5_firstLink 11 = .ok (.iinc 2 1, 3) := by decide +kernel
theorem dX5_firstLink_14 : decode cX5_firstLink 14 = .ok (.goto (-12), 3) := by decide +kernel
theorem dX5_firstLink_17 : decode cX5_firstLink 17 = .ok (.iload_n 2, 1) := by decide +kernel
theorem dX5_firstLink_18 : decode cX5_firstLink 18 = .ok (.ireturn, 1) := by decide +kernel
set_option maxRecDepth 20000 in
theorem ggX5_first_X5_in : GoodIn wsX5_first wsX5_in := goodIn_r _ [4] (by decide +kernel) (by decide +kernel)
set_option maxRecDepth 20000 in
theorem gX5_first_X5_in : GoodIn wsX5_first (va_wsS RX5 27 yX5_in wsX5_in) := goodIn_app (goodIn_of _ (by decide +kernel)) ggX5_first_X5_in
set_option maxRecDepth 20000 in
theorem ggX5_first_X5_lostInBlock : GoodIn wsX5_first wsX5_lostInBlock := goodIn_r _ [8, 9, 10, 11, 12, 3, 13, 22, 23, 24, 25] (by decide +kernel) (by decide +kernel)
set_option maxRecDepth 20000 in
theorem gX5_first_X5_lostInBlock : GoodIn wsX5_first (wsV RX5 86 RX5 yX5_lostInBlock wsX5_lostInBlock) := goodIn_app (goodIn_of _ (by decide +kernel)) ggX5_first_X5_lostInBlock
set_option maxRecDepth 20000 in
theorem ggX5_first_X5_firstLink : GoodIn wsX5_first wsX5_firstLink := goodIn_r _ [17, 18, 19, 20, 3, 21, 10, 11, 12, 13, 9, 22, 23, 24, 25] (by decide +kernel) (by decide +kernel)
set_option maxRecDepth 20000 in
theorem gX5_first_X5_firstLink : GoodIn wsX5_first (wsV RX5 90 RX5 yX5_firstLink wsX5_firstLink) := goodIn_app (goodIn_of _ (by decide +kernel)) ggX5_first_X5_firstLink
set_option maxRecDepth 20000 in
theorem ggX5_first_X5_lostOf : GoodIn wsX5_first wsX5_lostOf := goodIn_r _ [21, 10, 11, 12, 3, 13, 9, 22, 23, 24, 25] (by decide +kernel) (by decide +kernel)
set_option maxRecDepth 20000 in
theorem gX5_first_X5_lostOf : GoodIn wsX5_first (wsV RX5 73 RX5 yX5_lostOf wsX5_lostOf) := goodIn_app (goodIn_of _ (by decide +kernel)) ggX5_first_X5_lostOf
theorem dX5_first_0 : decode cX5_first 0 = .ok (.iload_n 1, 1) := by decide +kernel
theorem dX5_first_1 : decode cX5_first 1 = .ok (.iconst 0, 1) := by decide +kernel
theorem dX5_first_2 : decode cX5_first 2 = .ok (.bipush 20, 2) := by decide +kernel
theorem dX5_first_4 : decode cX5_first 4 = .ok (.invokestatic 27, 3) := by decide +kernel
theorem dX5_first_7 : decode cX5_first 7 = .ok (.ifCond .eq 12, 3) := by decide +kernel
theorem dX5_first_10 : decode cX5_first 10 = .ok (.iload_n 2, 1) := by decide +kernel
theorem dX5_first_11 : decode cX5_first 11 = .ok (.iconst 0, 1) := by decide +kernel
theorem dX5_first_12 : decode cX5_first 12 = .ok (.iconst 2, 1) := by decide +kernel
theorem dX5_first_13 : decode cX5_first 13 = .ok (.invokestatic 27, 3) := by decide +kernel
theorem dX5_first_16 : decode cX5_first 16 = .ok (.ifCond .ne 6, 3) := by decide +kernel
theorem dX5_first_19 : decode cX5_first 19 = .ok (.bipush (-2), 2) := by decide +kernel
theorem dX5_first_21 : decode cX5_first 21 = .ok (.ireturn, 1) := by decide +kernel
theorem dX5_first_22 : decode cX5_first 22 = .ok (.iconst 0, 1) := by decide +kernel
theorem dX5_first_23 : decode cX5_first 23 = .ok (.istore_n 3, 1) := by decide +kernel
theorem dX5_first_24 : decode cX5_first 24 = .ok (.iload_n 3, 1) := by decide +kernel
theorem dX5_first_25 : decode cX5_first 25 = .ok (.sipush 200, 3) := by decide +kernel
theorem dX5_first_28 : decode cX5_first 28 = .ok (.if_icmp .ge 18, 3) := by decide +kernel
theorem dX5_first_31 : decode cX5_first 31 = .ok (.aload_n 0, 1) := by decide +kernel
theorem dX5_first_32 : decode cX5_first 32 = .ok (.iload_n 3, 1) := by decide +kernel
theorem dX5_first_33 : decode cX5_first 33 = .ok (.invokevirtual 86, 3) := by decide +kernel
theorem dX5_first_36 : decode cX5_first 36 = .ok (.iload_n 1, 1) := by decide +kernel
theorem dX5_first_37 : decode cX5_first 37 = .ok (.if_icmp .gt 9, 3) := by decide +kernel
theorem dX5_first_40 : decode cX5_first 40 = .ok (.iinc 3 1, 3) := by decide +kernel
theorem dX5_first_43 : decode cX5_first 43 = .ok (.goto (-19), 3) := by decide +kernel
theorem dX5_first_46 : decode cX5_first 46 = .ok (.iload_n 3, 1) := by decide +kernel
theorem dX5_first_47 : decode cX5_first 47 = .ok (.sipush 200, 3) := by decide +kernel
theorem dX5_first_50 : decode cX5_first 50 = .ok (.if_icmp .ne 6, 3) := by decide +kernel
theorem dX5_first_53 : decode cX5_first 53 = .ok (.bipush (-6), 2) := by decide +kernel
theorem dX5_first_55 : decode cX5_first 55 = .ok (.ireturn, 1) := by decide +kernel
theorem dX5_first_56 : decode cX5_first 56 = .ok (.iload_n 2, 1) := by decide +kernel
theorem dX5_first_57 : decode cX5_first 57 = .ok (.ifCond .ne 7, 3) := by decide +kernel
theorem dX5_first_60 : decode cX5_first 60 = .ok (.iload_n 3, 1) := by decide +kernel
theorem dX5_first_61 : decode cX5_first 61 = .ok (.goto 26, 3) := by decide +kernel
theorem dX5_first_64 : decode cX5_first 64 = .ok (.iload_n 2, 1) := by decide +kernel
theorem dX5_first_65 : decode cX5_first 65 = .ok (.iconst 1, 1) := by decide +kernel
theorem dX5_first_66 : decode cX5_first 66 = .ok (.if_icmp .ne 11, 3) := by decide +kernel
theorem dX5_first_69 : decode cX5_first 69 = .ok (.aload_n 0, 1) := by decide +kernel
theorem dX5_first_70 : decode cX5_first 70 = .ok (.iload_n 3, 1) := by decide +kernel
theorem dX5_first_71 : decode cX5_first 71 = .ok (.invokevirtual 90, 3) := by decide +kernel
theorem dX5_first_74 : decode cX5_first 74 = .ok (.goto 13, 3) := by decide +kernel
theorem dX5_first_77 : decode cX5_first 77 = .ok (.aload_n 0, 1) := by decide +kernel
theorem dX5_first_78 : decode cX5_first 78 = .ok (.aload_n 0, 1) := by decide +kernel
theorem dX5_first_79 : decode cX5_first 79 = .ok (.iload_n 3, 1) := by decide +kernel
theorem dX5_first_80 : decode cX5_first 80 = .ok (.invokevirtual 90, 3) := by decide +kernel
theorem dX5_first_83 : decode cX5_first 83 = .ok (.iload_n 3, 1) := by decide +kernel
theorem dX5_first_84 : decode cX5_first 84 = .ok (.invokevirtual 73, 3) := by decide +kernel
theorem dX5_first_87 : decode cX5_first 87 = .ok (.ireturn, 1) := by decide +kernel
set_option maxRecDepth 20000 in
theorem ggX5_sound_X5_isNode : GoodIn wsX5_sound wsX5_isNode := goodIn_r _ [6, 1, 7, 8, 5, 9, 18, 19, 20, 21] (by decide +kernel) (by decide +kernel)
set_option maxRecDepth 20000 in
theorem gX5_sound_X5_isNode : GoodIn wsX5_sound (wsV RX5 43 RX5 yX5_isNode wsX5_isNode) := goodIn_app (goodIn_of _ (by decide +kernel)) ggX5_sound_X5_isNode
set_option maxRecDepth 20000 in
theorem ggX5_sound_X5_over : GoodIn wsX5_sound wsX5_over := goodIn_r _ [13, 14, 15, 16, 5, 17, 1, 18, 19, 20, 21] (by decide +kernel) (by decide +kernel)
set_option maxRecDepth 20000 in
theorem gX5_sound_X5_over : GoodIn wsX5_sound (wsV RX5 56 RX5 yX5_over wsX5_over) := goodIn_app (goodIn_of _ (by decide +kernel)) ggX5_sound_X5_over
theorem dX5_sound_0 : decode cX5_sound 0 = .ok (.aload_n 0, 1) := by decide +kernel
theorem dX5_sound_1 : decode cX5_sound 1 = .ok (.iload_n 1, 1) := by decide +kernel
theorem dX5_sound_2 : decode cX5_sound 2 = .ok (.invokevirtual 43, 3) := by decide +kernel
theorem dX5_sound_5 : decode cX5_sound 5 = .ok (.ifCond .eq 11, 3) := by decide +kernel
theorem dX5_sound_8 : decode cX5_sound 8 = .ok (.aload_n 0, 1) := by decide +kernel
theorem dX5_sound_9 : decode cX5_sound 9 = .ok (.iload_n 2, 1) := by decide +kernel
theorem dX5_sound_10 : decode cX5_sound 10 = .ok (.invokevirtual 43, 3) := by decide +kernel
theorem dX5_sound_13 : decode cX5_sound 13 = .ok (.ifCond .ne 5, 3) := by decide +kernel
theorem dX5_sound_16 : decode cX5_sound 16 = .ok (.iconst (-1), 1) := by decide +kernel
theorem dX5_sound_17 : decode cX5_sound 17 = .ok (.ireturn, 1) := by decide +kernel
theorem dX5_sound_18 : decode cX5_sound 18 = .ok (.iload_n 2, 1) := by decide +kernel
theorem dX5_sound_19 : decode cX5_sound 19 = .ok (.iload_n 1, 1) := by decide +kernel
theorem dX5_sound_20 : decode cX5_sound 20 = .ok (.if_icmp .gt 6, 3) := by decide +kernel
theorem dX5_sound_23 : decode cX5_sound 23 = .ok (.bipush (-2), 2) := by decide +kernel
theorem dX5_sound_25 : decode cX5_sound 25 = .ok (.ireturn, 1) := by decide +kernel
theorem dX5_sound_26 : decode cX5_sound 26 = .ok (.aload_n 0, 1) := by decide +kernel
theorem dX5_sound_27 : decode cX5_sound 27 = .ok (.getfield 7, 3) := by decide +kernel
theorem dX5_sound_30 : decode cX5_sound 30 = .ok (.iconst 1, 1) := by decide +kernel
theorem dX5_sound_31 : decode cX5_sound 31 = .ok (.iaload, 1) := by decide +kernel
theorem dX5_sound_32 : decode cX5_sound 32 = .ok (.iconst 1, 1) := by decide +kernel
theorem dX5_sound_33 : decode cX5_sound 33 = .ok (.iadd, 1) := by decide +kernel
theorem dX5_sound_34 : decode cX5_sound 34 = .ok (.sipush 9999, 3) := by decide +kernel
theorem dX5_sound_37 : decode cX5_sound 37 = .ok (.if_icmp .le 6, 3) := by decide +kernel
theorem dX5_sound_40 : decode cX5_sound 40 = .ok (.bipush (-4), 2) := by decide +kernel
theorem dX5_sound_42 : decode cX5_sound 42 = .ok (.ireturn, 1) := by decide +kernel
theorem dX5_sound_43 : decode cX5_sound 43 = .ok (.aload_n 0, 1) := by decide +kernel
theorem dX5_sound_44 : decode cX5_sound 44 = .ok (.getfield 7, 3) := by decide +kernel
theorem dX5_sound_47 : decode cX5_sound 47 = .ok (.iconst 1, 1) := by decide +kernel
theorem dX5_sound_48 : decode cX5_sound 48 = .ok (.iaload, 1) := by decide +kernel
theorem dX5_sound_49 : decode cX5_sound 49 = .ok (.istore_n 3, 1) := by decide +kernel
theorem dX5_sound_50 : decode cX5_sound 50 = .ok (.iload_n 1, 1) := by decide +kernel
theorem dX5_sound_51 : decode cX5_sound 51 = .ok (.istore 4, 2) := by decide +kernel
theorem dX5_sound_53 : decode cX5_sound 53 = .ok (.iload 4, 2) := by decide +kernel
theorem dX5_sound_55 : decode cX5_sound 55 = .ok (.iload_n 2, 1) := by decide +kernel
theorem dX5_sound_56 : decode cX5_sound 56 = .ok (.if_icmp .ge 18, 3) := by decide +kernel
theorem dX5_sound_59 : decode cX5_sound 59 = .ok (.aload_n 0, 1) := by decide +kernel
theorem dX5_sound_60 : decode cX5_sound 60 = .ok (.iload 4, 2) := by decide +kernel
theorem dX5_sound_62 : decode cX5_sound 62 = .ok (.iconst 0, 1) := by decide +kernel
theorem dX5_sound_63 : decode cX5_sound 63 = .ok (.iload_n 3, 1) := by decide +kernel
theorem dX5_sound_64 : decode cX5_sound 64 = .ok (.invokevirtual 56, 3) := by decide +kernel
theorem dX5_sound_67 : decode cX5_sound 67 = .ok (.istore_n 3, 1) := by decide +kernel
theorem dX5_sound_68 : decode cX5_sound 68 = .ok (.iinc 4 1, 3) := by decide +kernel
theorem dX5_sound_71 : decode cX5_sound 71 = .ok (.goto (-18), 3) := by decide +kernel
theorem dX5_sound_74 : decode cX5_sound 74 = .ok (.iload_n 3, 1) := by decide +kernel
theorem dX5_sound_75 : decode cX5_sound 75 = .ok (.istore 4, 2) := by decide +kernel
theorem dX5_sound_77 : decode cX5_sound 77 = .ok (.iload_n 2, 1) := by decide +kernel
theorem dX5_sound_78 : decode cX5_sound 78 = .ok (.iconst 1, 1) := by decide +kernel
theorem dX5_sound_79 : decode cX5_sound 79 = .ok (.isub, 1) := by decide +kernel
theorem dX5_sound_80 : decode cX5_sound 80 = .ok (.istore 5, 2) := by decide +kernel
theorem dX5_sound_82 : decode cX5_sound 82 = .ok (.iload 5, 2) := by decide +kernel
theorem dX5_sound_84 : decode cX5_sound 84 = .ok (.iload_n 1, 1) := by decide +kernel
theorem dX5_sound_85 : decode cX5_sound 85 = .ok (.if_icmp .lt 18, 3) := by decide +kernel
theorem dX5_sound_88 : decode cX5_sound 88 = .ok (.aload_n 0, 1) := by decide +kernel
theorem dX5_sound_89 : decode cX5_sound 89 = .ok (.iload 5, 2) := by decide +kernel
theorem dX5_sound_91 : decode cX5_sound 91 = .ok (.iconst 1, 1) := by decide +kernel
theorem dX5_sound_92 : decode cX5_sound 92 = .ok (.iload_n 3, 1) := by decide +kernel
theorem dX5_sound_93 : decode cX5_sound 93 = .ok (.invokevirtual 56, 3) := by decide +kernel
theorem dX5_sound_96 : decode cX5_sound 96 = .ok (.istore_n 3, 1) := by decide +kernel
theorem dX5_sound_97 : decode cX5_sound 97 = .ok (.iinc 5 (-1), 3) := by decide +kernel
theorem dX5_sound_100 : decode cX5_sound 100 = .ok (.goto (-18), 3) := by decide +kernel
theorem dX5_sound_103 : decode cX5_sound 103 = .ok (.aload_n 0, 1) := by decide +kernel
theorem dX5_sound_104 : decode cX5_sound 104 = .ok (.getfield 7, 3) := by decide +kernel
theorem dX5_sound_107 : decode cX5_sound 107 = .ok (.bipush 28, 2) := by decide +kernel
theorem dX5_sound_109 : decode cX5_sound 109 = .ok (.iload_n 2, 1) := by decide +kernel
theorem dX5_sound_110 : decode cX5_sound 110 = .ok (.iadd, 1) := by decide +kernel
theorem dX5_sound_111 : decode cX5_sound 111 = .ok (.iaload, 1) := by decide +kernel
theorem dX5_sound_112 : decode cX5_sound 112 = .ok (.aload_n 0, 1) := by decide +kernel
theorem dX5_sound_113 : decode cX5_sound 113 = .ok (.getfield 7, 3) := by decide +kernel
theorem dX5_sound_116 : decode cX5_sound 116 = .ok (.bipush 28, 2) := by decide +kernel
theorem dX5_sound_118 : decode cX5_sound 118 = .ok (.iload_n 1, 1) := by decide +kernel
theorem dX5_sound_119 : decode cX5_sound 119 = .ok (.iadd, 1) := by decide +kernel
theorem dX5_sound_120 : decode cX5_sound 120 = .ok (.iaload, 1) := by decide +kernel
theorem dX5_sound_121 : decode cX5_sound 121 = .ok (.isub, 1) := by decide +kernel
theorem dX5_sound_122 : decode cX5_sound 122 = .ok (.istore 5, 2) := by decide +kernel
theorem dX5_sound_124 : decode cX5_sound 124 = .ok (.iconst 5, 1) := by decide +kernel
theorem dX5_sound_125 : decode cX5_sound 125 = .ok (.iload_n 1, 1) := by decide +kernel
theorem dX5_sound_126 : decode cX5_sound 126 = .ok (.imul, 1) := by decide +kernel
theorem dX5_sound_127 : decode cX5_sound 127 = .ok (.iload_n 2, 1) := by decide +kernel
theorem dX5_sound_128 : decode cX5_sound 128 = .ok (.iadd, 1) := by decide +kernel
theorem dX5_sound_129 : decode cX5_sound 129 = .ok (.istore 6, 2) := by decide +kernel
theorem dX5_sound_131 : decode cX5_sound 131 = .ok (.iload 4, 2) := by decide +kernel
theorem dX5_sound_133 : decode cX5_sound 133 = .ok (.aload_n 0, 1) := by decide +kernel
theorem dX5_sound_134 : decode cX5_sound 134 = .ok (.getfield 7, 3) := by decide +kernel
theorem dX5_sound_137 : decode cX5_sound 137 = .ok (.iconst 1, 1) := by decide +kernel
theorem dX5_sound_138 : decode cX5_sound 138 = .ok (.iaload, 1) := by decide +kernel
theorem dX5_sound_139 : decode cX5_sound 139 = .ok (.isub, 1) := by decide +kernel
theorem dX5_sound_140 : decode cX5_sound 140 = .ok (.iload 5, 2) := by decide +kernel
theorem dX5_sound_142 : decode cX5_sound 142 = .ok (.iadd, 1) := by decide +kernel
theorem dX5_sound_143 : decode cX5_sound 143 = .ok (.iload_n 2, 1) := by decide +kernel
theorem dX5_sound_144 : decode cX5_sound 144 = .ok (.iload_n 1, 1) := by decide +kernel
theorem dX5_sound_145 : decode cX5_sound 145 = .ok (.isub, 1) := by decide +kernel
theorem dX5_sound_146 : decode cX5_sound 146 = .ok (.isub, 1) := by decide +kernel
theorem dX5_sound_147 : decode cX5_sound 147 = .ok (.istore 7, 2) := by decide +kernel
theorem dX5_sound_149 : decode cX5_sound 149 = .ok (.iload 4, 2) := by decide +kernel
theorem dX5_sound_151 : decode cX5_sound 151 = .ok (.iload_n 3, 1) := by decide +kernel
theorem dX5_sound_152 : decode cX5_sound 152 = .ok (.isub, 1) := by decide +kernel
theorem dX5_sound_153 : decode cX5_sound 153 = .ok (.iload 5, 2) := by decide +kernel
theorem dX5_sound_155 : decode cX5_sound 155 = .ok (.iadd, 1) := by decide +kernel
theorem dX5_sound_156 : decode cX5_sound 156 = .ok (.iload_n 2, 1) := by decide +kernel
theorem dX5_sound_157 : decode cX5_sound 157 = .ok (.iload_n 1, 1) := by decide +kernel
theorem dX5_sound_158 : decode cX5_sound 158 = .ok (.isub, 1) := by decide +kernel
theorem dX5_sound_159 : decode cX5_sound 159 = .ok (.iadd, 1) := by decide +kernel
theorem dX5_sound_160 : decode cX5_sound 160 = .ok (.istore 8, 2) := by decide +kernel
theorem dX5_sound_162 : decode cX5_sound 162 = .ok (.aload_n 0, 1) := by decide +kernel
theorem dX5_sound_163 : decode cX5_sound 163 = .ok (.getfield 7, 3) := by decide +kernel
theorem dX5_sound_166 : decode cX5_sound 166 = .ok (.bipush 83, 2) := by decide +kernel
theorem dX5_sound_168 : decode cX5_sound 168 = .ok (.iload 6, 2) := by decide +kernel
theorem dX5_sound_170 : decode cX5_sound 170 = .ok (.iadd, 1) := by decide +kernel
theorem dX5_sound_171 : decode cX5_sound 171 = .ok (.iaload, 1) := by decide +kernel
theorem dX5_sound_172 : decode cX5_sound 172 = .ok (.iconst 1, 1) := by decide +kernel
theorem dX5_sound_173 : decode cX5_sound 173 = .ok (.if_icmp .ne 7, 3) := by decide +kernel
theorem dX5_sound_176 : decode cX5_sound 176 = .ok (.iconst 1, 1) := by decide +kernel
theorem dX5_sound_177 : decode cX5_sound 177 = .ok (.goto 4, 3) := by decide +kernel
theorem dX5_sound_180 : decode cX5_sound 180 = .ok (.iconst 0, 1) := by decide +kernel
theorem dX5_sound_181 : decode cX5_sound 181 = .ok (.istore 9, 2) := by decide +kernel
theorem dX5_sound_183 : decode cX5_sound 183 = .ok (.aload_n 0, 1) := by decide +kernel
theorem dX5_sound_184 : decode cX5_sound 184 = .ok (.getfield 7, 3) := by decide +kernel
theorem dX5_sound_187 : decode cX5_sound 187 = .ok (.bipush 33, 2) := by decide +kernel
theorem dX5_sound_189 : decode cX5_sound 189 = .ok (.iload 6, 2) := by decide +kernel
theorem dX5_sound_191 : decode cX5_sound 191 = .ok (.iadd, 1) := by decide +kernel
theorem dX5_sound_192 : decode cX5_sound 192 = .ok (.iload 9, 2) := by decide +kernel
theorem dX5_sound_194 : decode cX5_sound 194 = .ok (.ifCond .eq 31, 3) := by decide +kernel
theorem dX5_sound_197 : decode cX5_sound 197 = .ok (.aload_n 0, 1) := by decide +kernel
theorem dX5_sound_198 : decode cX5_sound 198 = .ok (.getfield 7, 3) := by decide +kernel
theorem dX5_sound_201 : decode cX5_sound 201 = .ok (.bipush 33, 2) := by decide +kernel
theorem dX5_sound_203 : decode cX5_sound 203 = .ok (.iload 6, 2) := by decide +kernel
theorem dX5_sound_205 : decode cX5_sound 205 = .ok (.iadd, 1) := by decide +kernel
theorem dX5_sound_206 : decode cX5_sound 206 = .ok (.iaload, 1) := by decide +kernel
theorem dX5_sound_207 : decode cX5_sound 207 = .ok (.iload 7, 2) := by decide +kernel
theorem dX5_sound_209 : decode cX5_sound 209 = .ok (.if_icmp .ge 16, 3) := by decide +kernel
theorem dX5_sound_212 : decode cX5_sound 212 = .ok (.aload_n 0, 1) := by decide +kernel
theorem dX5_sound_213 : decode cX5_sound 213 = .ok (.getfield 7, 3) := by decide +kernel
theorem dX5_sound_216 : decode cX5_sound 216 = .ok (.bipush 33, 2) := by decide +kernel
theorem dX5_sound_218 : decode cX5_sound 218 = .ok (.iload 6, 2) := by decide +kernel
theorem dX5_sound_220 : decode cX5_sound 220 = .ok (.iadd, 1) := by decide +kernel
theorem dX5_sound_221 : decode cX5_sound 221 = .ok (.iaload, 1) := by decide +kernel
theorem dX5_sound_222 : decode cX5_sound 222 = .ok (.goto 5, 3) := by decide +kernel
theorem dX5_sound_225 : decode cX5_sound 225 = .ok (.iload 7, 2) := by decide +kernel
theorem dX5_sound_227 : decode cX5_sound 227 = .ok (.iastore, 1) := by decide +kernel
theorem dX5_sound_228 : decode cX5_sound 228 = .ok (.aload_n 0, 1) := by decide +kernel
theorem dX5_sound_229 : decode cX5_sound 229 = .ok (.getfield 7, 3) := by decide +kernel
theorem dX5_sound_232 : decode cX5_sound 232 = .ok (.bipush 58, 2) := by decide +kernel
theorem dX5_sound_234 : decode cX5_sound 234 = .ok (.iload 6, 2) := by decide +kernel
theorem dX5_sound_236 : decode cX5_sound 236 = .ok (.iadd, 1) := by decide +kernel
theorem dX5_sound_237 : decode cX5_sound 237 = .ok (.iload 9, 2) := by decide +kernel
theorem dX5_sound_239 : decode cX5_sound 239 = .ok (.ifCond .eq 31, 3) := by decide +kernel
theorem dX5_sound_242 : decode cX5_sound 242 = .ok (.aload_n 0, 1) := by decide +kernel
theorem dX5_sound_243 : decode cX5_sound 243 = .ok (.getfield 7, 3) := by decide +kernel
theorem dX5_sound_246 : decode cX5_sound 246 = .ok (.bipush 58, 2) := by decide +kernel
theorem dX5_sound_248 : decode cX5_sound 248 = .ok (.iload 6, 2) := by decide +kernel
theorem dX5_sound_250 : decode cX5_sound 250 = .ok (.iadd, 1) := by decide +kernel
theorem dX5_sound_251 : decode cX5_sound 251 = .ok (.iaload, 1) := by decide +kernel
theorem dX5_sound_252 : decode cX5_sound 252 = .ok (.iload 8, 2) := by decide +kernel
theorem dX5_sound_254 : decode cX5_sound 254 = .ok (.if_icmp .le 16, 3) := by decide +kernel
theorem dX5_sound_257 : decode cX5_sound 257 = .ok (.aload_n 0, 1) := by decide +kernel
theorem dX5_sound_258 : decode cX5_sound 258 = .ok (.getfield 7, 3) := by decide +kernel
theorem dX5_sound_261 : decode cX5_sound 261 = .ok (.bipush 58, 2) := by decide +kernel
theorem dX5_sound_263 : decode cX5_sound 263 = .ok (.iload 6, 2) := by decide +kernel
theorem dX5_sound_265 : decode cX5_sound 265 = .ok (.iadd, 1) := by decide +kernel
theorem dX5_sound_266 : decode cX5_sound 266 = .ok (.iaload, 1) := by decide +kernel
theorem dX5_sound_267 : decode cX5_sound 267 = .ok (.goto 5, 3) := by decide +kernel
theorem dX5_sound_270 : decode cX5_sound 270 = .ok (.iload 8, 2) := by decide +kernel
theorem dX5_sound_272 : decode cX5_sound 272 = .ok (.iastore, 1) := by decide +kernel
theorem dX5_sound_273 : decode cX5_sound 273 = .ok (.aload_n 0, 1) := by decide +kernel
theorem dX5_sound_274 : decode cX5_sound 274 = .ok (.getfield 7, 3) := by decide +kernel
theorem dX5_sound_277 : decode cX5_sound 277 = .ok (.bipush 83, 2) := by decide +kernel
theorem dX5_sound_279 : decode cX5_sound 279 = .ok (.iload 6, 2) := by decide +kernel
theorem dX5_sound_281 : decode cX5_sound 281 = .ok (.iadd, 1) := by decide +kernel
theorem dX5_sound_282 : decode cX5_sound 282 = .ok (.iconst 1, 1) := by decide +kernel
theorem dX5_sound_283 : decode cX5_sound 283 = .ok (.iastore, 1) := by decide +kernel
theorem dX5_sound_284 : decode cX5_sound 284 = .ok (.iload_n 3, 1) := by decide +kernel
theorem dX5_sound_285 : decode cX5_sound 285 = .ok (.aload_n 0, 1) := by decide +kernel
theorem dX5_sound_286 : decode cX5_sound 286 = .ok (.getfield 7, 3) := by decide +kernel
theorem dX5_sound_289 : decode cX5_sound 289 = .ok (.iconst 1, 1) := by decide +kernel
theorem dX5_sound_290 : decode cX5_sound 290 = .ok (.iaload, 1) := by decide +kernel
theorem dX5_sound_291 : decode cX5_sound 291 = .ok (.isub, 1) := by decide +kernel
theorem dX5_sound_292 : decode cX5_sound 292 = .ok (.istore 10, 2) := by decide +kernel
theorem dX5_sound_294 : decode cX5_sound 294 = .ok (.aload_n 0, 1) := by decide +kernel
theorem dX5_sound_295 : decode cX5_sound 295 = .ok (.getfield 7, 3) := by decide +kernel
theorem dX5_sound_298 : decode cX5_sound 298 = .ok (.iconst 1, 1) := by decide +kernel
theorem dX5_sound_299 : decode cX5_sound 299 = .ok (.dup2, 1) := by decide +kernel
theorem dX5_sound_300 : decode cX5_sound 300 = .ok (.iaload, 1) := by decide +kernel
theorem dX5_sound_301 : decode cX5_sound 301 = .ok (.iconst 1, 1) := by decide +kernel
theorem dX5_sound_302 : decode cX5_sound 302 = .ok (.iadd, 1) := by decide +kernel
theorem dX5_sound_303 : decode cX5_sound 303 = .ok (.iastore, 1) := by decide +kernel
theorem dX5_sound_304 : decode cX5_sound 304 = .ok (.iload 10, 2) := by decide +kernel
theorem dX5_sound_306 : decode cX5_sound 306 = .ok (.ireturn, 1) := by decide +kernel
set_option maxRecDepth 20000 in
theorem ggX5_apart_X5_isNode : GoodIn wsX5_apart wsX5_isNode := goodIn_r _ [9, 3, 10, 11, 8, 12, 13, 14, 15, 16] (by decide +kernel) (by decide +kernel)
set_option maxRecDepth 20000 in
theorem gX5_apart_X5_isNode : GoodIn wsX5_apart (wsV RX5 43 RX5 yX5_isNode wsX5_isNode) := goodIn_app (goodIn_of _ (by decide +kernel)) ggX5_apart_X5_isNode
set_option maxRecDepth 20000 in
theorem ggX5_apart_X5_in : GoodIn wsX5_apart wsX5_in := goodIn_r _ [12] (by decide +kernel) (by decide +kernel)
set_option maxRecDepth 20000 in
theorem gX5_apart_X5_in : GoodIn wsX5_apart (va_wsS RX5 27 yX5_in wsX5_in) := goodIn_app (goodIn_of _ (by decide +kernel)) ggX5_apart_X5_in
theorem dX5_apart_0 : decode cX5_apart 0 = .ok (.aload_n 0, 1) := by decide +kernel
theorem dX5_apart_1 : decode cX5_apart 1 = .ok (.iload_n 1, 1) := by decide +kernel
theorem dX5_apart_2 : decode cX5_apart 2 = .ok (.invokevirtual 43, 3) := by decide +kernel
theorem dX5_apart_5 : decode cX5_apart 5 = .ok (.ifCond .eq 11, 3) := by decide +kernel
theorem dX5_apart_8 : decode cX5_apart 8 = .ok (.aload_n 0, 1) := by decide +kernel
theorem dX5_apart_9 : decode cX5_apart 9 = .ok (.iload_n 2, 1) := by decide +kernel
theorem dX5_apart_10 : decode cX5_apart 10 = .ok (.invokevirtual 43, 3) := by decide +kernel
theorem dX5_apart_13 : decode cX5_apart 13 = .ok (.ifCond .ne 6, 3) := by decide +kernel
theorem dX5_apart_16 : decode cX5_apart 16 = .ok (.ldc 46, 2) := by decide +kernel
theorem dX5_apart_18 : decode cX5_apart 18 = .ok (.ireturn, 1) := by decide +kernel
theorem dX5_apart_19 : decode cX5_apart 19 = .ok (.iload_n 2, 1) := by decide +kernel
theorem dX5_apart_20 : decode cX5_apart 20 = .ok (.iload_n 1, 1) := by decide +kernel
theorem dX5_apart_21 : decode cX5_apart 21 = .ok (.if_icmp .le 12, 3) := by decide +kernel
theorem dX5_apart_24 : decode cX5_apart 24 = .ok (.iload_n 3, 1) := by decide +kernel
theorem dX5_apart_25 : decode cX5_apart 25 = .ok (.iconst 0, 1) := by decide +kernel
theorem dX5_apart_26 : decode cX5_apart 26 = .ok (.iconst 1, 1) := by decide +kernel
theorem dX5_apart_27 : decode cX5_apart 27 = .ok (.invokestatic 27, 3) := by decide +kernel
theorem dX5_apart_30 : decode cX5_apart 30 = .ok (.ifCond .ne 6, 3) := by decide +kernel
theorem dX5_apart_33 : decode cX5_apart 33 = .ok (.ldc 47, 2) := by decide +kernel
theorem dX5_apart_35 : decode cX5_apart 35 = .ok (.ireturn, 1) := by decide +kernel
theorem dX5_apart_36 : decode cX5_apart 36 = .ok (.iconst 5, 1) := by decide +kernel
theorem dX5_apart_37 : decode cX5_apart 37 = .ok (.iload_n 1, 1) := by decide +kernel
theorem dX5_apart_38 : decode cX5_apart 38 = .ok (.imul, 1) := by decide +kernel
theorem dX5_apart_39 : decode cX5_apart 39 = .ok (.iload_n 2, 1) := by decide +kernel
theorem dX5_apart_40 : decode cX5_apart 40 = .ok (.iadd, 1) := by decide +kernel
theorem dX5_apart_41 : decode cX5_apart 41 = .ok (.istore 4, 2) := by decide +kernel
theorem dX5_apart_43 : decode cX5_apart 43 = .ok (.aload_n 0, 1) := by decide +kernel
theorem dX5_apart_44 : decode cX5_apart 44 = .ok (.getfield 7, 3) := by decide +kernel
theorem dX5_apart_47 : decode cX5_apart 47 = .ok (.bipush 83, 2) := by decide +kernel
theorem dX5_apart_49 : decode cX5_apart 49 = .ok (.iload 4, 2) := by decide +kernel
theorem dX5_apart_51 : decode cX5_apart 51 = .ok (.iadd, 1) := by decide +kernel
theorem dX5_apart_52 : decode cX5_apart 52 = .ok (.iaload, 1) := by decide +kernel
theorem dX5_apart_53 : decode cX5_apart 53 = .ok (.ifCond .ne 8, 3) := by decide +kernel
theorem dX5_apart_56 : decode cX5_apart 56 = .ok (.ldc 93, 2) := by decide +kernel
theorem dX5_apart_58 : decode cX5_apart 58 = .ok (.goto 22, 3) := by decide +kernel
theorem dX5_apart_61 : decode cX5_apart 61 = .ok (.aload_n 0, 1) := by decide +kernel
theorem dX5_apart_62 : decode cX5_apart 62 = .ok (.getfield 7, 3) := by decide +kernel
theorem dX5_apart_65 : decode cX5_apart 65 = .ok (.iload_n 3, 1) := by decide +kernel
theorem dX5_apart_66 : decode cX5_apart 66 = .ok (.ifCond .ne 8, 3) := by decide +kernel
theorem dX5_apart_69 : decode cX5_apart 69 = .ok (.bipush 58, 2) := by decide +kernel
theorem dX5_apart_71 : decode cX5_apart 71 = .ok (.goto 5, 3) := by decide +kernel
theorem dX5_apart_74 : decode cX5_apart 74 = .ok (.bipush 33, 2) := by decide +kernel
theorem dX5_apart_76 : decode cX5_apart 76 = .ok (.iload 4, 2) := by decide +kernel
theorem dX5_apart_78 : decode cX5_apart 78 = .ok (.iadd, 1) := by decide +kernel
theorem dX5_apart_79 : decode cX5_apart 79 = .ok (.iaload, 1) := by decide +kernel
theorem dX5_apart_80 : decode cX5_apart 80 = .ok (.ireturn, 1) := by decide +kernel
theorem dX5_layLeast_0 : decode cX5_layLeast 0 = .ok (.iconst 0, 1) := by decide +kernel
theorem dX5_layLeast_1 : decode cX5_layLeast 1 = .ok (.istore_n 1, 1) := by decide +kernel
theorem dX5_layLeast_2 : decode cX5_layLeast 2 = .ok (.iload_n 1, 1) := by decide +kernel
theorem dX5_layLeast_3 : decode cX5_layLeast 3 = .ok (.bipush 25, 2) := by decide +kernel
theorem dX5_layLeast_5 : decode cX5_layLeast 5 = .ok (.if_icmp .ge 95, 3) := by decide +kernel
theorem dX5_layLeast_8 : decode cX5_layLeast 8 = .ok (.iload_n 1, 1) := by decide +kernel
theorem dX5_layLeast_9 : decode cX5_layLeast 9 = .ok (.iconst 5, 1) := by decide +kernel
theorem dX5_layLeast_10 : decode cX5_layLeast 10 = .ok (.idiv, 1) := by decide +kernel
theorem dX5_layLeast_11 : decode cX5_layLeast 11 = .ok (.istore_n 2, 1) := by decide +kernel
theorem dX5_layLeast_12 : decode cX5_layLeast 12 = .ok (.iload_n 1, 1) := by decide +kernel
theorem dX5_layLeast_13 : decode cX5_layLeast 13 = .ok (.iconst 5, 1) := by decide +kernel
theorem dX5_layLeast_14 : decode cX5_layLeast 14 = .ok (.irem, 1) := by decide +kernel
theorem dX5_layLeast_15 : decode cX5_layLeast 15 = .ok (.istore_n 3, 1) := by decide +kernel
theorem dX5_layLeast_16 : decode cX5_layLeast 16 = .ok (.iload_n 2, 1) := by decide +kernel
theorem dX5_layLeast_17 : decode cX5_layLeast 17 = .ok (.iload_n 3, 1) := by decide +kernel
theorem dX5_layLeast_18 : decode cX5_layLeast 18 = .ok (.if_icmp .ge 7, 3) := by decide +kernel
theorem dX5_layLeast_21 : decode cX5_layLeast 21 = .ok (.iload_n 1, 1) := by decide +kernel
theorem dX5_layLeast_22 : decode cX5_layLeast 22 = .ok (.goto 8, 3) := by decide +kernel
theorem dX5_layLeast_25 : decode cX5_layLeast 25 = .ok (.iconst 5, 1) := by decide +kernel
theorem dX5_layLeast_26 : decode cX5_layLeast 26 = .ok (.iload_n 3, 1) := by decide +kernel
theorem dX5_layLeast_27 : decode cX5_layLeast 27 = .ok (.imul, 1) := by decide +kernel
theorem dX5_layLeast_28 : decode cX5_layLeast 28 = .ok (.iload_n 2, 1) := by decide +kernel
theorem dX5_layLeast_29 : decode cX5_layLeast 29 = .ok (.iadd, 1) := by decide +kernel
theorem dX5_layLeast_30 : decode cX5_layLeast 30 = .ok (.istore 4, 2) := by decide +kernel
theorem dX5_layLeast_32 : decode cX5_layLeast 32 = .ok (.aload_n 0, 1) := by decide +kernel
theorem dX5_layLeast_33 : decode cX5_layLeast 33 = .ok (.getfield 20, 3) := by decide +kernel
theorem dX5_layLeast_36 : decode cX5_layLeast 36 = .ok (.iload_n 1, 1) := by decide +kernel
theorem dX5_layLeast_37 : decode cX5_layLeast 37 = .ok (.iload_n 2, 1) := by decide +kernel
theorem dX5_layLeast_38 : decode cX5_layLeast 38 = .ok (.iload_n 3, 1) := by decide +kernel
theorem dX5_layLeast_39 : decode cX5_layLeast 39 = .ok (.if_icmp .ne 7, 3) := by decide +kernel
theorem dX5_layLeast_42 : decode cX5_layLeast 42 = .ok (.iconst 0, 1) := by decide +kernel
theorem dX5_layLeast_43 : decode cX5_layLeast 43 = .ok (.goto 50, 3) := by decide +kernel
theorem dX5_layLeast_46 : decode cX5_layLeast 46 = .ok (.aload_n 0, 1) := by decide +kernel
theorem dX5_layLeast_47 : decode cX5_layLeast 47 = .ok (.getfield 7, 3) := by decide +kernel
theorem dX5_layLeast_50 : decode cX5_layLeast 50 = .ok (.bipush 83, 2) := by decide +kernel
theorem dX5_layLeast_52 : decode cX5_layLeast 52 = .ok (.iload 4, 2) := by decide +kernel
theorem dX5_layLeast_54 : decode cX5_layLeast 54 = .ok (.iadd, 1) := by decide +kernel
theorem dX5_layLeast_55 : decode cX5_layLeast 55 = .ok (.iaload, 1) := by decide +kernel
theorem dX5_layLeast_56 : decode cX5_layLeast 56 = .ok (.ifCond .ne 8, 3) := by decide +kernel
theorem dX5_layLeast_59 : decode cX5_layLeast 59 = .ok (.ldc 94, 2) := by decide +kernel
theorem dX5_layLeast_61 : decode cX5_layLeast 61 = .ok (.goto 32, 3) := by decide +kernel
theorem dX5_layLeast_64 : decode cX5_layLeast 64 = .ok (.iload_n 2, 1) := by decide +kernel
theorem dX5_layLeast_65 : decode cX5_layLeast 65 = .ok (.iload_n 3, 1) := by decide +kernel
theorem dX5_layLeast_66 : decode cX5_layLeast 66 = .ok (.if_icmp .ge 16, 3) := by decide +kernel
theorem dX5_layLeast_69 : decode cX5_layLeast 69 = .ok (.aload_n 0, 1) := by decide +kernel
theorem dX5_layLeast_70 : decode cX5_layLeast 70 = .ok (.getfield 7, 3) := by decide +kernel
theorem dX5_layLeast_73 : decode cX5_layLeast 73 = .ok (.bipush 33, 2) := by decide +kernel
theorem dX5_layLeast_75 : decode cX5_layLeast 75 = .ok (.iload 4, 2) := by decide +kernel
theorem dX5_layLeast_77 : decode cX5_layLeast 77 = .ok (.iadd, 1) := by decide +kernel
theorem dX5_layLeast_78 : decode cX5_layLeast 78 = .ok (.iaload, 1) := by decide +kernel
theorem dX5_layLeast_79 : decode cX5_layLeast 79 = .ok (.goto 14, 3) := by decide +kernel
theorem dX5_layLeast_82 : decode cX5_layLeast 82 = .ok (.aload_n 0, 1) := by decide +kernel
theorem dX5_layLeast_83 : decode cX5_layLeast 83 = .ok (.getfield 7, 3) := by decide +kernel
theorem dX5_layLeast_86 : decode cX5_layLeast 86 = .ok (.bipush 58, 2) := by decide +kernel
theorem dX5_layLeast_88 : decode cX5_layLeast 88 = .ok (.iload 4, 2) := by decide +kernel
theorem dX5_layLeast_90 : decode cX5_layLeast 90 = .ok (.iadd, 1) := by decide +kernel
theorem dX5_layLeast_91 : decode cX5_layLeast 91 = .ok (.iaload, 1) := by decide +kernel
theorem dX5_layLeast_92 : decode cX5_layLeast 92 = .ok (.ineg, 1) := by decide +kernel
theorem dX5_layLeast_93 : decode cX5_layLeast 93 = .ok (.iastore, 1) := by decide +kernel
theorem dX5_layLeast_94 : decode cX5_layLeast 94 = .ok (.iinc 1 1, 3) := by decide +kernel
theorem dX5_layLeast_97 : decode cX5_layLeast 97 = .ok (.goto (-95), 3) := by decide +kernel
theorem dX5_layLeast_100 : decode cX5_layLeast 100 = .ok (.iconst 0, 1) := by decide +kernel
theorem dX5_layLeast_101 : decode cX5_layLeast 101 = .ok (.istore_n 1, 1) := by decide +kernel
theorem dX5_layLeast_102 : decode cX5_layLeast 102 = .ok (.iload_n 1, 1) := by decide +kernel
theorem dX5_layLeast_103 : decode cX5_layLeast 103 = .ok (.iconst 5, 1) := by decide +kernel
theorem dX5_layLeast_104 : decode cX5_layLeast 104 = .ok (.if_icmp .ge 95, 3) := by decide +kernel
theorem dX5_layLeast_107 : decode cX5_layLeast 107 = .ok (.iconst 0, 1) := by decide +kernel
theorem dX5_layLeast_108 : decode cX5_layLeast 108 = .ok (.istore_n 2, 1) := by decide +kernel
theorem dX5_layLeast_109 : decode cX5_layLeast 109 = .ok (.iload_n 2, 1) := by decide +kernel
theorem dX5_layLeast_110 : decode cX5_layLeast 110 = .ok (.bipush 25, 2) := by decide +kernel
theorem dX5_layLeast_112 : decode cX5_layLeast 112 = .ok (.if_icmp .ge 81, 3) := by decide +kernel
theorem dX5_layLeast_115 : decode cX5_layLeast 115 = .ok (.aload_n 0, 1) := by decide +kernel
theorem dX5_layLeast_116 : decode cX5_layLeast 116 = .ok (.getfield 20, 3) := by decide +kernel
theorem dX5_layLeast_119 : decode cX5_layLeast 119 = .ok (.iconst 5, 1) := by decide +kernel
theorem dX5_layLeast_120 : decode cX5_layLeast 120 = .ok (.iload_n 2, 1) := by decide +kernel
theorem dX5_layLeast_121 : decode cX5_layLeast 121 = .ok (.iconst 5, 1) := by decide +kernel
theorem dX5_layLeast_122 : decode cX5_layLeast 122 = .ok (.idiv, 1) := by decide +kernel
theorem dX5_layLeast_123 : decode cX5_layLeast 123 = .ok (.imul, 1) := by decide +kernel
theorem dX5_layLeast_124 : decode cX5_layLeast 124 = .ok (.iload_n 1, 1) := by decide +kernel
theorem dX5_layLeast_125 : decode cX5_layLeast 125 = .ok (.iadd, 1) := by decide +kernel
theorem dX5_layLeast_126 : decode cX5_layLeast 126 = .ok (.iaload, 1) := by decide +kernel
theorem dX5_layLeast_127 : decode cX5_layLeast 127 = .ok (.istore_n 3, 1) := by decide +kernel
theorem dX5_layLeast_128 : decode cX5_layLeast 128 = .ok (.aload_n 0, 1) := by decide +kernel
theorem dX5_layLeast_129 : decode cX5_layLeast 129 = .ok (.getfield 20, 3) := by decide +kernel
theorem dX5_layLeast_132 : decode cX5_layLeast 132 = .ok (.iconst 5, 1) := by decide +kernel
theorem dX5_layLeast_133 : decode cX5_layLeast 133 = .ok (.iload_n 1, 1) := by decide +kernel
theorem dX5_layLeast_134 : decode cX5_layLeast 134 = .ok (.imul, 1) := by decide +kernel
theorem dX5_layLeast_135 : decode cX5_layLeast 135 = .ok (.iload_n 2, 1) := by decide +kernel
theorem dX5_layLeast_136 : decode cX5_layLeast 136 = .ok (.iconst 5, 1) := by decide +kernel
theorem dX5_layLeast_137 : decode cX5_layLeast 137 = .ok (.irem, 1) := by decide +kernel
theorem dX5_layLeast_138 : decode cX5_layLeast 138 = .ok (.iadd, 1) := by decide +kernel
theorem dX5_layLeast_139 : decode cX5_layLeast 139 = .ok (.iaload, 1) := by decide +kernel
theorem dX5_layLeast_140 : decode cX5_layLeast 140 = .ok (.istore 4, 2) := by decide +kernel
theorem dX5_layLeast_142 : decode cX5_layLeast 142 = .ok (.aload_n 0, 1) := by decide +kernel
theorem dX5_layLeast_143 : decode cX5_layLeast 143 = .ok (.getfield 20, 3) := by decide +kernel
theorem dX5_layLeast_146 : decode cX5_layLeast 146 = .ok (.iload_n 2, 1) := by decide +kernel
theorem dX5_layLeast_147 : decode cX5_layLeast 147 = .ok (.iload_n 3, 1) := by decide +kernel
theorem dX5_layLeast_148 : decode cX5_layLeast 148 = .ok (.ldc 94, 2) := by decide +kernel
theorem dX5_layLeast_150 : decode cX5_layLeast 150 = .ok (.if_icmp .ge 30, 3) := by decide +kernel
theorem dX5_layLeast_153 : decode cX5_layLeast 153 = .ok (.iload 4, 2) := by decide +kernel
theorem dX5_layLeast_155 : decode cX5_layLeast 155 = .ok (.ldc 94, 2) := by decide +kernel
theorem dX5_layLeast_157 : decode cX5_layLeast 157 = .ok (.if_icmp .ge 23, 3) := by decide +kernel
theorem dX5_layLeast_160 : decode cX5_layLeast 160 = .ok (.iload_n 3, 1) := by decide +kernel
theorem dX5_layLeast_161 : decode cX5_layLeast 161 = .ok (.iload 4, 2) := by decide +kernel
theorem dX5_layLeast_163 : decode cX5_layLeast 163 = .ok (.iadd, 1) := by decide +kernel
theorem dX5_layLeast_164 : decode cX5_layLeast 164 = .ok (.aload_n 0, 1) := by decide +kernel
theorem dX5_layLeast_165 : decode cX5_layLeast 165 = .ok (.getfield 20, 3) := by decide +kernel
theorem dX5_layLeast_168 : decode cX5_layLeast 168 = .ok (.iload_n 2, 1) := by decide +kernel
theorem dX5_layLeast_169 : decode cX5_layLeast 169 = .ok (.iaload, 1) := by decide +kernel
theorem dX5_layLeast_170 : decode cX5_layLeast 170 = .ok (.if_icmp .ge 10, 3) := by decide +kernel
theorem dX5_layLeast_173 : decode cX5_layLeast 173 = .ok (.iload_n 3, 1) := by decide +kernel
theorem dX5_layLeast_174 : decode cX5_layLeast 174 = .ok (.iload 4, 2) := by decide +kernel
theorem dX5_layLeast_176 : decode cX5_layLeast 176 = .ok (.iadd, 1) := by decide +kernel
theorem dX5_layLeast_177 : decode cX5_layLeast 177 = .ok (.goto 9, 3) := by decide +kernel
theorem dX5_layLeast_180 : decode cX5_layLeast 180 = .ok (.aload_n 0, 1) := by decide +kernel
theorem dX5_layLeast_181 : decode cX5_layLeast 181 = .ok (.getfield 20, 3) := by decide +kernel
theorem dX5_layLeast_184 : decode cX5_layLeast 184 = .ok (.iload_n 2, 1) := by decide +kernel
theorem dX5_layLeast_185 : decode cX5_layLeast 185 = .ok (.iaload, 1) := by decide +kernel
theorem dX5_layLeast_186 : decode cX5_layLeast 186 = .ok (.iastore, 1) := by decide +kernel
theorem dX5_layLeast_187 : decode cX5_layLeast 187 = .ok (.iinc 2 1, 3) := by decide +kernel
theorem dX5_layLeast_190 : decode cX5_layLeast 190 = .ok (.goto (-81), 3) := by decide +kernel
theorem dX5_layLeast_193 : decode cX5_layLeast 193 = .ok (.iinc 1 1, 3) := by decide +kernel
theorem dX5_layLeast_196 : decode cX5_layLeast 196 = .ok (.goto (-94), 3) := by decide +kernel
theorem dX5_layLeast_199 : decode cX5_layLeast 199 = .ok (.return_, 1) := by decide +kernel
set_option maxRecDepth 20000 in
theorem ggX5_tight_X5_isNode : GoodIn wsX5_tight wsX5_isNode := goodIn_r _ [9, 10, 11, 12, 8, 13, 18, 19, 20, 21] (by decide +kernel) (by decide +kernel)
set_option maxRecDepth 20000 in
theorem gX5_tight_X5_isNode : GoodIn wsX5_tight (wsV RX5 43 RX5 yX5_isNode wsX5_isNode) := goodIn_app (goodIn_of _ (by decide +kernel)) ggX5_tight_X5_isNode
set_option maxRecDepth 20000 in
theorem ggX5_tight_X5_layLeast : GoodIn wsX5_tight wsX5_layLeast := goodIn_r _ [17, 2, 10, 3, 18, 19, 20, 21] (by decide +kernel) (by decide +kernel)
set_option maxRecDepth 20000 in
theorem gX5_tight_X5_layLeast : GoodIn wsX5_tight (wsV RX5 95 RX5 yX5_layLeast wsX5_layLeast) := goodIn_app (goodIn_of _ (by decide +kernel)) ggX5_tight_X5_layLeast
theorem dX5_tight_0 : decode cX5_tight 0 = .ok (.aload_n 0, 1) := by decide +kernel
theorem dX5_tight_1 : decode cX5_tight 1 = .ok (.iload_n 1, 1) := by decide +kernel
theorem dX5_tight_2 : decode cX5_tight 2 = .ok (.invokevirtual 43, 3) := by decide +kernel
theorem dX5_tight_5 : decode cX5_tight 5 = .ok (.ifCond .eq 11, 3) := by decide +kernel
theorem dX5_tight_8 : decode cX5_tight 8 = .ok (.aload_n 0, 1) := by decide +kernel
theorem dX5_tight_9 : decode cX5_tight 9 = .ok (.iload_n 2, 1) := by decide +kernel
theorem dX5_tight_10 : decode cX5_tight 10 = .ok (.invokevirtual 43, 3) := by decide +kernel
theorem dX5_tight_13 : decode cX5_tight 13 = .ok (.ifCond .ne 6, 3) := by decide +kernel
theorem dX5_tight_16 : decode cX5_tight 16 = .ok (.ldc 46, 2) := by decide +kernel
theorem dX5_tight_18 : decode cX5_tight 18 = .ok (.ireturn, 1) := by decide +kernel
theorem dX5_tight_19 : decode cX5_tight 19 = .ok (.aload_n 0, 1) := by decide +kernel
theorem dX5_tight_20 : decode cX5_tight 20 = .ok (.invokevirtual 95, 3) := by decide +kernel
theorem dX5_tight_23 : decode cX5_tight 23 = .ok (.aload_n 0, 1) := by decide +kernel
theorem dX5_tight_24 : decode cX5_tight 24 = .ok (.getfield 20, 3) := by decide +kernel
theorem dX5_tight_27 : decode cX5_tight 27 = .ok (.iconst 5, 1) := by decide +kernel
theorem dX5_tight_28 : decode cX5_tight 28 = .ok (.iload_n 1, 1) := by decide +kernel
theorem dX5_tight_29 : decode cX5_tight 29 = .ok (.imul, 1) := by decide +kernel
theorem dX5_tight_30 : decode cX5_tight 30 = .ok (.iload_n 2, 1) := by decide +kernel
theorem dX5_tight_31 : decode cX5_tight 31 = .ok (.iadd, 1) := by decide +kernel
theorem dX5_tight_32 : decode cX5_tight 32 = .ok (.iaload, 1) := by decide +kernel
theorem dX5_tight_33 : decode cX5_tight 33 = .ok (.istore_n 3, 1) := by decide +kernel
theorem dX5_tight_34 : decode cX5_tight 34 = .ok (.iload_n 3, 1) := by decide +kernel
theorem dX5_tight_35 : decode cX5_tight 35 = .ok (.ldc 94, 2) := by decide +kernel
theorem dX5_tight_37 : decode cX5_tight 37 = .ok (.if_icmp .ne 8, 3) := by decide +kernel
theorem dX5_tight_40 : decode cX5_tight 40 = .ok (.ldc 93, 2) := by decide +kernel
theorem dX5_tight_42 : decode cX5_tight 42 = .ok (.goto 4, 3) := by decide +kernel
theorem dX5_tight_45 : decode cX5_tight 45 = .ok (.iload_n 3, 1) := by decide +kernel
theorem dX5_tight_46 : decode cX5_tight 46 = .ok (.ireturn, 1) := by decide +kernel
set_option maxRecDepth 20000 in
theorem ggX5_truth_X5_isNode : GoodIn wsX5_truth wsX5_isNode := goodIn_r _ [11, 12, 13, 14, 10, 15, 41, 42, 43, 44] (by decide +kernel) (by decide +kernel)
set_option maxRecDepth 20000 in
theorem gX5_truth_X5_isNode : GoodIn wsX5_truth (wsV RX5 43 RX5 yX5_isNode wsX5_isNode) := goodIn_app (goodIn_of _ (by decide +kernel)) ggX5_truth_X5_isNode
set_option maxRecDepth 20000 in
theorem ggX5_truth_X5_isBlock : GoodIn wsX5_truth wsX5_isBlock := goodIn_r _ [18, 13, 14, 10, 15] (by decide +kernel) (by decide +kernel)
set_option maxRecDepth 20000 in
theorem gX5_truth_X5_isBlock : GoodIn wsX5_truth (va_wsS RX5 64 yX5_isBlock wsX5_isBlock) := goodIn_app (goodIn_of _ (by decide +kernel)) ggX5_truth_X5_isBlock
set_option maxRecDepth 20000 in
theorem ggX5_truth_X5_in : GoodIn wsX5_truth wsX5_in := goodIn_r _ [15] (by decide +kernel) (by decide +kernel)
set_option maxRecDepth 20000 in
theorem gX5_truth_X5_in : GoodIn wsX5_truth (va_wsS RX5 27 yX5_in wsX5_in) := goodIn_app (goodIn_of _ (by decide +kernel)) ggX5_truth_X5_in
set_option maxRecDepth 20000 in
theorem ggX5_truth_X5_isTaken : GoodIn wsX5_truth wsX5_isTaken := goodIn_r _ [22, 23, 24, 25, 10, 26, 12, 41, 42, 43, 44] (by decide +kernel) (by decide +kernel)
set_option maxRecDepth 20000 in
theorem gX5_truth_X5_isTaken : GoodIn wsX5_truth (wsV RX5 79 RX5 yX5_isTaken wsX5_isTaken) := goodIn_app (goodIn_of _ (by decide +kernel)) ggX5_truth_X5_isTaken
set_option maxRecDepth 20000 in
theorem ggX5_truth_X5_layLeast : GoodIn wsX5_truth wsX5_layLeast := goodIn_r _ [30, 4, 12, 5, 41, 42, 43, 44] (by decide +kernel) (by decide +kernel)
set_option maxRecDepth 20000 in
theorem gX5_truth_X5_layLeast : GoodIn wsX5_truth (wsV RX5 95 RX5 yX5_layLeast wsX5_layLeast) := goodIn_app (goodIn_of _ (by decide +kernel)) ggX5_truth_X5_layLeast
set_option maxRecDepth 20000 in
theorem ggX5_truth_X5_countOf : GoodIn wsX5_truth wsX5_countOf := goodIn_r _ [26, 12, 41, 42, 43, 44] (by decide +kernel) (by decide +kernel)
set_option maxRecDepth 20000 in
theorem gX5_truth_X5_countOf : GoodIn wsX5_truth (wsV RX5 67 RX5 yX5_countOf wsX5_countOf) := goodIn_app (goodIn_of _ (by decide +kernel)) ggX5_truth_X5_countOf
set_option maxRecDepth 20000 in
theorem ggX5_truth_X5_sumOf : GoodIn wsX5_truth wsX5_sumOf := goodIn_r _ [34, 12, 41, 42, 43, 44] (by decide +kernel) (by decide +kernel)
set_option maxRecDepth 20000 in
theorem gX5_truth_X5_sumOf : GoodIn wsX5_truth (wsV RX5 70 RX5 yX5_sumOf wsX5_sumOf) := goodIn_app (goodIn_of _ (by decide +kernel)) ggX5_truth_X5_sumOf
set_option maxRecDepth 20000 in
theorem ggX5_truth_X5_told : GoodIn wsX5_truth wsX5_told := goodIn_r _ [37, 38, 39, 10, 40] (by decide +kernel) (by decide +kernel)
set_option maxRecDepth 20000 in
theorem gX5_truth_X5_told : GoodIn wsX5_truth (va_wsS RX5 83 yX5_told wsX5_told) := goodIn_app (goodIn_of _ (by decide +kernel)) ggX5_truth_X5_told
theorem dX5_truth_0 : decode cX5_truth 0 = .ok (.aload_n 0, 1) := by decide +kernel
theorem dX5_truth_1 : decode cX5_truth 1 = .ok (.iload_n 1, 1) := by decide +kernel
theorem dX5_truth_2 : decode cX5_truth 2 = .ok (.invokevirtual 43, 3) := by decide +kernel
theorem dX5_truth_5 : decode cX5_truth 5 = .ok (.ifCond .eq 11, 3) := by decide +kernel
theorem dX5_truth_8 : decode cX5_truth 8 = .ok (.aload_n 0, 1) := by decide +kernel
theorem dX5_truth_9 : decode cX5_truth 9 = .ok (.iload_n 2, 1) := by decide +kernel
theorem dX5_truth_10 : decode cX5_truth 10 = .ok (.invokevirtual 43, 3) := by decide +kernel
theorem dX5_truth_13 : decode cX5_truth 13 = .ok (.ifCond .ne 6, 3) := by decide +kernel
theorem dX5_truth_16 : decode cX5_truth 16 = .ok (.ldc 46, 2) := by decide +kernel
theorem dX5_truth_18 : decode cX5_truth 18 = .ok (.ireturn, 1) := by decide +kernel
theorem dX5_truth_19 : decode cX5_truth 19 = .ok (.iload_n 2, 1) := by decide +kernel
theorem dX5_truth_20 : decode cX5_truth 20 = .ok (.iload_n 1, 1) := by decide +kernel
theorem dX5_truth_21 : decode cX5_truth 21 = .ok (.if_icmp .le 30, 3) := by decide +kernel
theorem dX5_truth_24 : decode cX5_truth 24 = .ok (.iload_n 3, 1) := by decide +kernel
theorem dX5_truth_25 : decode cX5_truth 25 = .ok (.invokestatic 64, 3) := by decide +kernel
theorem dX5_truth_28 : decode cX5_truth 28 = .ok (.ifCond .eq 23, 3) := by decide +kernel
theorem dX5_truth_31 : decode cX5_truth 31 = .ok (.iload 4, 2) := by decide +kernel
theorem dX5_truth_33 : decode cX5_truth 33 = .ok (.iconst 0, 1) := by decide +kernel
theorem dX5_truth_34 : decode cX5_truth 34 = .ok (.iconst 1, 1) := by decide +kernel
theorem dX5_truth_35 : decode cX5_truth 35 = .ok (.invokestatic 27, 3) := by decide +kernel
theorem dX5_truth_38 : decode cX5_truth 38 = .ok (.ifCond .eq 13, 3) := by decide +kernel
theorem dX5_truth_41 : decode cX5_truth 41 = .ok (.iload 5, 2) := by decide +kernel
theorem dX5_truth_43 : decode cX5_truth 43 = .ok (.iconst 0, 1) := by decide +kernel
theorem dX5_truth_44 : decode cX5_truth 44 = .ok (.iconst 1, 1) := by decide +kernel
theorem dX5_truth_45 : decode cX5_truth 45 = .ok (.invokestatic 27, 3) := by decide +kernel
theorem dX5_truth_48 : decode cX5_truth 48 = .ok (.ifCond .ne 6, 3) := by decide +kernel
theorem dX5_truth_51 : decode cX5_truth 51 = .ok (.ldc 47, 2) := by decide +kernel
theorem dX5_truth_53 : decode cX5_truth 53 = .ok (.ireturn, 1) := by decide +kernel
theorem dX5_truth_54 : decode cX5_truth 54 = .ok (.aload_n 0, 1) := by decide +kernel
theorem dX5_truth_55 : decode cX5_truth 55 = .ok (.iload_n 1, 1) := by decide +kernel
theorem dX5_truth_56 : decode cX5_truth 56 = .ok (.iload_n 2, 1) := by decide +kernel
theorem dX5_truth_57 : decode cX5_truth 57 = .ok (.iload_n 3, 1) := by decide +kernel
theorem dX5_truth_58 : decode cX5_truth 58 = .ok (.invokevirtual 79, 3) := by decide +kernel
theorem dX5_truth_61 : decode cX5_truth 61 = .ok (.ifCond .ne 6, 3) := by decide +kernel
theorem dX5_truth_64 : decode cX5_truth 64 = .ok (.ldc 82, 2) := by decide +kernel
theorem dX5_truth_66 : decode cX5_truth 66 = .ok (.ireturn, 1) := by decide +kernel
theorem dX5_truth_67 : decode cX5_truth 67 = .ok (.aload_n 0, 1) := by decide +kernel
theorem dX5_truth_68 : decode cX5_truth 68 = .ok (.invokevirtual 95, 3) := by decide +kernel
theorem dX5_truth_71 : decode cX5_truth 71 = .ok (.iload 4, 2) := by decide +kernel
theorem dX5_truth_73 : decode cX5_truth 73 = .ok (.ifCond .ne 16, 3) := by decide +kernel
theorem dX5_truth_76 : decode cX5_truth 76 = .ok (.aload_n 0, 1) := by decide +kernel
theorem dX5_truth_77 : decode cX5_truth 77 = .ok (.getfield 20, 3) := by decide +kernel
theorem dX5_truth_80 : decode cX5_truth 80 = .ok (.iconst 5, 1) := by decide +kernel
theorem dX5_truth_81 : decode cX5_truth 81 = .ok (.iload_n 2, 1) := by decide +kernel
theorem dX5_truth_82 : decode cX5_truth 82 = .ok (.imul, 1) := by decide +kernel
theorem dX5_truth_83 : decode cX5_truth 83 = .ok (.iload_n 1, 1) := by decide +kernel
theorem dX5_truth_84 : decode cX5_truth 84 = .ok (.iadd, 1) := by decide +kernel
theorem dX5_truth_85 : decode cX5_truth 85 = .ok (.iaload, 1) := by decide +kernel
theorem dX5_truth_86 : decode cX5_truth 86 = .ok (.goto 13, 3) := by decide +kernel
theorem dX5_truth_89 : decode cX5_truth 89 = .ok (.aload_n 0, 1) := by decide +kernel
theorem dX5_truth_90 : decode cX5_truth 90 = .ok (.getfield 20, 3) := by decide +kernel
theorem dX5_truth_93 : decode cX5_truth 93 = .ok (.iconst 5, 1) := by decide +kernel
theorem dX5_truth_94 : decode cX5_truth 94 = .ok (.iload_n 1, 1) := by decide +kernel
theorem dX5_truth_95 : decode cX5_truth 95 = .ok (.imul, 1) := by decide +kernel
theorem dX5_truth_96 : decode cX5_truth 96 = .ok (.iload_n 2, 1) := by decide +kernel
theorem dX5_truth_97 : decode cX5_truth 97 = .ok (.iadd, 1) := by decide +kernel
theorem dX5_truth_98 : decode cX5_truth 98 = .ok (.iaload, 1) := by decide +kernel
theorem dX5_truth_99 : decode cX5_truth 99 = .ok (.istore 6, 2) := by decide +kernel
theorem dX5_truth_101 : decode cX5_truth 101 = .ok (.iload 6, 2) := by decide +kernel
theorem dX5_truth_103 : decode cX5_truth 103 = .ok (.ldc 94, 2) := by decide +kernel
theorem dX5_truth_105 : decode cX5_truth 105 = .ok (.if_icmp .ne 6, 3) := by decide +kernel
theorem dX5_truth_108 : decode cX5_truth 108 = .ok (.ldc 93, 2) := by decide +kernel
theorem dX5_truth_110 : decode cX5_truth 110 = .ok (.ireturn, 1) := by decide +kernel
theorem dX5_truth_111 : decode cX5_truth 111 = .ok (.iload 4, 2) := by decide +kernel
theorem dX5_truth_113 : decode cX5_truth 113 = .ok (.ifCond .ne 8, 3) := by decide +kernel
theorem dX5_truth_116 : decode cX5_truth 116 = .ok (.iload 6, 2) := by decide +kernel
theorem dX5_truth_118 : decode cX5_truth 118 = .ok (.goto 6, 3) := by decide +kernel
theorem dX5_truth_121 : decode cX5_truth 121 = .ok (.iload 6, 2) := by decide +kernel
theorem dX5_truth_123 : decode cX5_truth 123 = .ok (.ineg, 1) := by decide +kernel
theorem dX5_truth_124 : decode cX5_truth 124 = .ok (.istore 7, 2) := by decide +kernel
theorem dX5_truth_126 : decode cX5_truth 126 = .ok (.aload_n 0, 1) := by decide +kernel
theorem dX5_truth_127 : decode cX5_truth 127 = .ok (.iload_n 2, 1) := by decide +kernel
theorem dX5_truth_128 : decode cX5_truth 128 = .ok (.iload_n 3, 1) := by decide +kernel
theorem dX5_truth_129 : decode cX5_truth 129 = .ok (.invokevirtual 67, 3) := by decide +kernel
theorem dX5_truth_132 : decode cX5_truth 132 = .ok (.istore 8, 2) := by decide +kernel
theorem dX5_truth_134 : decode cX5_truth 134 = .ok (.aload_n 0, 1) := by decide +kernel
theorem dX5_truth_135 : decode cX5_truth 135 = .ok (.iload_n 2, 1) := by decide +kernel
theorem dX5_truth_136 : decode cX5_truth 136 = .ok (.iload_n 3, 1) := by decide +kernel
theorem dX5_truth_137 : decode cX5_truth 137 = .ok (.invokevirtual 70, 3) := by decide +kernel
theorem dX5_truth_140 : decode cX5_truth 140 = .ok (.aload_n 0, 1) := by decide +kernel
theorem dX5_truth_141 : decode cX5_truth 141 = .ok (.iload_n 1, 1) := by decide +kernel
theorem dX5_truth_142 : decode cX5_truth 142 = .ok (.iload_n 3, 1) := by decide +kernel
theorem dX5_truth_143 : decode cX5_truth 143 = .ok (.invokevirtual 70, 3) := by decide +kernel
theorem dX5_truth_146 : decode cX5_truth 146 = .ok (.isub, 1) := by decide +kernel
theorem dX5_truth_147 : decode cX5_truth 147 = .ok (.iload 7, 2) := by decide +kernel
theorem dX5_truth_149 : decode cX5_truth 149 = .ok (.iload 8, 2) := by decide +kernel
theorem dX5_truth_151 : decode cX5_truth 151 = .ok (.imul, 1) := by decide +kernel
theorem dX5_truth_152 : decode cX5_truth 152 = .ok (.iadd, 1) := by decide +kernel
theorem dX5_truth_153 : decode cX5_truth 153 = .ok (.iload 8, 2) := by decide +kernel
theorem dX5_truth_155 : decode cX5_truth 155 = .ok (.iload 5, 2) := by decide +kernel
theorem dX5_truth_157 : decode cX5_truth 157 = .ok (.invokestatic 83, 3) := by decide +kernel
theorem dX5_truth_160 : decode cX5_truth 160 = .ok (.ireturn, 1) := by decide +kernel
set_option maxRecDepth 20000 in
theorem ggX5_image_X5_in : GoodIn wsX5_image wsX5_in := goodIn_r _ [7] (by decide +kernel) (by decide +kernel)
set_option maxRecDepth 20000 in
theorem gX5_image_X5_in : GoodIn wsX5_image (va_wsS RX5 27 yX5_in wsX5_in) := goodIn_app (goodIn_of _ (by decide +kernel)) ggX5_image_X5_in
theorem dX5_image_0 : decode cX5_image 0 = .ok (.iload_n 1, 1) := by decide +kernel
theorem dX5_image_1 : decode cX5_image 1 = .ok (.iconst 0, 1) := by decide +kernel
theorem dX5_image_2 : decode cX5_image 2 = .ok (.iconst 1, 1) := by decide +kernel
theorem dX5_image_3 : decode cX5_image 3 = .ok (.invokestatic 27, 3) := by decide +kernel
theorem dX5_image_6 : decode cX5_image 6 = .ok (.ifCond .ne 6, 3) := by decide +kernel
theorem dX5_image_9 : decode cX5_image 9 = .ok (.bipush (-2), 2) := by decide +kernel
theorem dX5_image_11 : decode cX5_image 11 = .ok (.ireturn, 1) := by decide +kernel
theorem dX5_image_12 : decode cX5_image 12 = .ok (.iconst 0, 1) := by decide +kernel
theorem dX5_image_13 : decode cX5_image 13 = .ok (.istore_n 2, 1) := by decide +kernel
theorem dX5_image_14 : decode cX5_image 14 = .ok (.iload_n 2, 1) := by decide +kernel
theorem dX5_image_15 : decode cX5_image 15 = .ok (.sipush 2108, 3) := by decide +kernel
theorem dX5_image_18 : decode cX5_image 18 = .ok (.if_icmp .ge 27, 3) := by decide +kernel
theorem dX5_image_21 : decode cX5_image 21 = .ok (.aload_n 0, 1) := by decide +kernel
theorem dX5_image_22 : decode cX5_image 22 = .ok (.getfield 13, 3) := by decide +kernel
theorem dX5_image_25 : decode cX5_image 25 = .ok (.sipush 2108, 3) := by decide +kernel
theorem dX5_image_28 : decode cX5_image 28 = .ok (.iload_n 1, 1) := by decide +kernel
theorem dX5_image_29 : decode cX5_image 29 = .ok (.imul, 1) := by decide +kernel
theorem dX5_image_30 : decode cX5_image 30 = .ok (.iload_n 2, 1) := by decide +kernel
theorem dX5_image_31 : decode cX5_image 31 = .ok (.iadd, 1) := by decide +kernel
theorem dX5_image_32 : decode cX5_image 32 = .ok (.aload_n 0, 1) := by decide +kernel
theorem dX5_image_33 : decode cX5_image 33 = .ok (.getfield 7, 3) := by decide +kernel
theorem dX5_image_36 : decode cX5_image 36 = .ok (.iload_n 2, 1) := by decide +kernel
theorem dX5_image_37 : decode cX5_image 37 = .ok (.iaload, 1) := by decide +kernel
theorem dX5_image_38 : decode cX5_image 38 = .ok (.iastore, 1) := by decide +kernel
theorem dX5_image_39 : decode cX5_image 39 = .ok (.iinc 2 1, 3) := by decide +kernel
theorem dX5_image_42 : decode cX5_image 42 = .ok (.goto (-28), 3) := by decide +kernel
theorem dX5_image_45 : decode cX5_image 45 = .ok (.aload_n 0, 1) := by decide +kernel
theorem dX5_image_46 : decode cX5_image 46 = .ok (.getfield 16, 3) := by decide +kernel
theorem dX5_image_49 : decode cX5_image 49 = .ok (.iload_n 1, 1) := by decide +kernel
theorem dX5_image_50 : decode cX5_image 50 = .ok (.iconst 1, 1) := by decide +kernel
theorem dX5_image_51 : decode cX5_image 51 = .ok (.bastore, 1) := by decide +kernel
theorem dX5_image_52 : decode cX5_image 52 = .ok (.iconst 1, 1) := by decide +kernel
theorem dX5_image_53 : decode cX5_image 53 = .ok (.ireturn, 1) := by decide +kernel
set_option maxRecDepth 20000 in
theorem ggX5_restore_X5_in : GoodIn wsX5_restore wsX5_in := goodIn_r _ [7] (by decide +kernel) (by decide +kernel)
set_option maxRecDepth 20000 in
theorem gX5_restore_X5_in : GoodIn wsX5_restore (va_wsS RX5 27 yX5_in wsX5_in) := goodIn_app (goodIn_of _ (by decide +kernel)) ggX5_restore_X5_in
theorem dX5_restore_0 : decode cX5_restore 0 = .ok (.iload_n 1, 1) := by decide +kernel
theorem dX5_restore_1 : decode cX5_restore 1 = .ok (.iconst 0, 1) := by decide +kernel
theorem dX5_restore_2 : decode cX5_restore 2 = .ok (.iconst 1, 1) := by decide +kernel
theorem dX5_restore_3 : decode cX5_restore 3 = .ok (.invokestatic 27, 3) := by decide +kernel
theorem dX5_restore_6 : decode cX5_restore 6 = .ok (.ifCond .ne 6, 3) := by decide +kernel
theorem dX5_restore_9 : decode cX5_restore 9 = .ok (.bipush (-2), 2) := by decide +kernel
theorem dX5_restore_11 : decode cX5_restore 11 = .ok (.ireturn, 1) := by decide +kernel
theorem dX5_restore_12 : decode cX5_restore 12 = .ok (.aload_n 0, 1) := by decide +kernel
theorem dX5_restore_13 : decode cX5_restore 13 = .ok (.getfield 16, 3) := by decide +kernel
theorem dX5_restore_16 : decode cX5_restore 16 = .ok (.iload_n 1, 1) := by decide +kernel
theorem dX5_restore_17 : decode cX5_restore 17 = .ok (.baload, 1) := by decide +kernel
theorem dX5_restore_18 : decode cX5_restore 18 = .ok (.ifCond .ne 6, 3) := by decide +kernel
theorem dX5_restore_21 : decode cX5_restore 21 = .ok (.bipush (-3), 2) := by decide +kernel
theorem dX5_restore_23 : decode cX5_restore 23 = .ok (.ireturn, 1) := by decide +kernel
theorem dX5_restore_24 : decode cX5_restore 24 = .ok (.iconst 0, 1) := by decide +kernel
theorem dX5_restore_25 : decode cX5_restore 25 = .ok (.istore_n 2, 1) := by decide +kernel
theorem dX5_restore_26 : decode cX5_restore 26 = .ok (.iload_n 2, 1) := by decide +kernel
theorem dX5_restore_27 : decode cX5_restore 27 = .ok (.sipush 2108, 3) := by decide +kernel
theorem dX5_restore_30 : decode cX5_restore 30 = .ok (.if_icmp .ge 27, 3) := by decide +kernel
theorem dX5_restore_33 : decode cX5_restore 33 = .ok (.aload_n 0, 1) := by decide +kernel
theorem dX5_restore_34 : decode cX5_restore 34 = .ok (.getfield 7, 3) := by decide +kernel
theorem dX5_restore_37 : decode cX5_restore 37 = .ok (.iload_n 2, 1) := by decide +kernel
theorem dX5_restore_38 : decode cX5_restore 38 = .ok (.aload_n 0, 1) := by decide +kernel
theorem dX5_restore_39 : decode cX5_restore 39 = .ok (.getfield 13, 3) := by decide +kernel
theorem dX5_restore_42 : decode cX5_restore 42 = .ok (.sipush 2108, 3) := by decide +kernel
theorem dX5_restore_45 : decode cX5_restore 45 = .ok (.iload_n 1, 1) := by decide +kernel
theorem dX5_restore_46 : decode cX5_restore 46 = .ok (.imul, 1) := by decide +kernel
theorem dX5_restore_47 : decode cX5_restore 47 = .ok (.iload_n 2, 1) := by decide +kernel
theorem dX5_restore_48 : decode cX5_restore 48 = .ok (.iadd, 1) := by decide +kernel
theorem dX5_restore_49 : decode cX5_restore 49 = .ok (.iaload, 1) := by decide +kernel
theorem dX5_restore_50 : decode cX5_restore 50 = .ok (.iastore, 1) := by decide +kernel
theorem dX5_restore_51 : decode cX5_restore 51 = .ok (.iinc 2 1, 3) := by decide +kernel
theorem dX5_restore_54 : decode cX5_restore 54 = .ok (.goto (-28), 3) := by decide +kernel
theorem dX5_restore_57 : decode cX5_restore 57 = .ok (.iconst 1, 1) := by decide +kernel
theorem dX5_restore_58 : decode cX5_restore 58 = .ok (.ireturn, 1) := by decide +kernel
theorem dX5_blocksSent_0 : decode cX5_blocksSent 0 = .ok (.aload_n 0, 1) := by decide +kernel
theorem dX5_blocksSent_1 : decode cX5_blocksSent 1 = .ok (.getfield 7, 3) := by decide +kernel
theorem dX5_blocksSent_4 : decode cX5_blocksSent 4 = .ok (.iconst 2, 1) := by decide +kernel
theorem dX5_blocksSent_5 : decode cX5_blocksSent 5 = .ok (.iaload, 1) := by decide +kernel
theorem dX5_blocksSent_6 : decode cX5_blocksSent 6 = .ok (.aload_n 0, 1) := by decide +kernel
theorem dX5_blocksSent_7 : decode cX5_blocksSent 7 = .ok (.getfield 7, 3) := by decide +kernel
theorem dX5_blocksSent_10 : decode cX5_blocksSent 10 = .ok (.iconst 3, 1) := by decide +kernel
theorem dX5_blocksSent_11 : decode cX5_blocksSent 11 = .ok (.iaload, 1) := by decide +kernel
theorem dX5_blocksSent_12 : decode cX5_blocksSent 12 = .ok (.iadd, 1) := by decide +kernel
theorem dX5_blocksSent_13 : decode cX5_blocksSent 13 = .ok (.iconst 1, 1) := by decide +kernel
theorem dX5_blocksSent_14 : decode cX5_blocksSent 14 = .ok (.isub, 1) := by decide +kernel
theorem dX5_blocksSent_15 : decode cX5_blocksSent 15 = .ok (.aload_n 0, 1) := by decide +kernel
theorem dX5_blocksSent_16 : decode cX5_blocksSent 16 = .ok (.getfield 7, 3) := by decide +kernel
theorem dX5_blocksSent_19 : decode cX5_blocksSent 19 = .ok (.iconst 3, 1) := by decide +kernel
theorem dX5_blocksSent_20 : decode cX5_blocksSent 20 = .ok (.iaload, 1) := by decide +kernel
theorem dX5_blocksSent_21 : decode cX5_blocksSent 21 = .ok (.idiv, 1) := by decide +kernel
theorem dX5_blocksSent_22 : decode cX5_blocksSent 22 = .ok (.ireturn, 1) := by decide +kernel
theorem dX5_pairs_0 : decode cX5_pairs 0 = .ok (.iconst 0, 1) := by decide +kernel
theorem dX5_pairs_1 : decode cX5_pairs 1 = .ok (.istore_n 1, 1) := by decide +kernel
theorem dX5_pairs_2 : decode cX5_pairs 2 = .ok (.iconst 0, 1) := by decide +kernel
theorem dX5_pairs_3 : decode cX5_pairs 3 = .ok (.istore_n 2, 1) := by decide +kernel
theorem dX5_pairs_4 : decode cX5_pairs 4 = .ok (.iload_n 2, 1) := by decide +kernel
theorem dX5_pairs_5 : decode cX5_pairs 5 = .ok (.bipush 25, 2) := by decide +kernel
theorem dX5_pairs_7 : decode cX5_pairs 7 = .ok (.if_icmp .ge 21, 3) := by decide +kernel
theorem dX5_pairs_10 : decode cX5_pairs 10 = .ok (.iload_n 1, 1) := by decide +kernel
theorem dX5_pairs_11 : decode cX5_pairs 11 = .ok (.aload_n 0, 1) := by decide +kernel
theorem dX5_pairs_12 : decode cX5_pairs 12 = .ok (.getfield 7, 3) := by decide +kernel
theorem dX5_pairs_15 : decode cX5_pairs 15 = .ok (.bipush 83, 2) := by decide +kernel
theorem dX5_pairs_17 : decode cX5_pairs 17 = .ok (.iload_n 2, 1) := by decide +kernel
theorem dX5_pairs_18 : decode cX5_pairs 18 = .ok (.iadd, 1) := by decide +kernel
theorem dX5_pairs_19 : decode cX5_pairs 19 = .ok (.iaload, 1) := by decide +kernel
theorem dX5_pairs_20 : decode cX5_pairs 20 = .ok (.iadd, 1) := by decide +kernel
theorem dX5_pairs_21 : decode cX5_pairs 21 = .ok (.istore_n 1, 1) := by decide +kernel
theorem dX5_pairs_22 : decode cX5_pairs 22 = .ok (.iinc 2 1, 3) := by decide +kernel
theorem dX5_pairs_25 : decode cX5_pairs 25 = .ok (.goto (-21), 3) := by decide +kernel
theorem dX5_pairs_28 : decode cX5_pairs 28 = .ok (.iload_n 1, 1) := by decide +kernel
theorem dX5_pairs_29 : decode cX5_pairs 29 = .ok (.ireturn, 1) := by decide +kernel
set_option maxRecDepth 20000 in
theorem ggX5_count_X5_isLink : GoodIn wsX5_count wsX5_isLink := goodIn_r _ [7, 1, 8, 9, 6, 10, 23, 24, 25, 26] (by decide +kernel) (by decide +kernel)
set_option maxRecDepth 20000 in
theorem gX5_count_X5_isLink : GoodIn wsX5_count (wsV RX5 31 RX5 yX5_isLink wsX5_isLink) := goodIn_app (goodIn_of _ (by decide +kernel)) ggX5_count_X5_isLink
set_option maxRecDepth 20000 in
theorem ggX5_count_X5_linkOf : GoodIn wsX5_count wsX5_linkOf := goodIn_r _ [14, 1, 23, 24, 25, 26] (by decide +kernel) (by decide +kernel)
set_option maxRecDepth 20000 in
theorem gX5_count_X5_linkOf : GoodIn wsX5_count (wsV RX5 39 RX5 yX5_linkOf wsX5_linkOf) := goodIn_app (goodIn_of _ (by decide +kernel)) ggX5_count_X5_linkOf
set_option maxRecDepth 20000 in
theorem ggX5_count_X5_blocksSent : GoodIn wsX5_count wsX5_blocksSent := goodIn_r _ [18, 1, 23, 24, 25, 26] (by decide +kernel) (by decide +kernel)
set_option maxRecDepth 20000 in
theorem gX5_count_X5_blocksSent : GoodIn wsX5_count (wsV RX5 98 RX5 yX5_blocksSent wsX5_blocksSent) := goodIn_app (goodIn_of _ (by decide +kernel)) ggX5_count_X5_blocksSent
set_option maxRecDepth 20000 in
theorem ggX5_count_X5_pairs : GoodIn wsX5_count wsX5_pairs := goodIn_r _ [22, 1, 23, 24, 25, 26] (by decide +kernel) (by decide +kernel)
set_option maxRecDepth 20000 in
theorem gX5_count_X5_pairs : GoodIn wsX5_count (wsV RX5 102 RX5 yX5_pairs wsX5_pairs) := goodIn_app (goodIn_of _ (by decide +kernel)) ggX5_count_X5_pairs
theorem dX5_count_0 : decode cX5_count 0 = .ok (.iload_n 1, 1) := by decide +kernel
theorem dX5_count_1 : decode cX5_count 1 = .ok (.bipush 10, 2) := by decide +kernel
theorem dX5_count_3 : decode cX5_count 3 = .ok (.if_icmp .lt 40, 3) := by decide +kernel
theorem dX5_count_6 : decode cX5_count 6 = .ok (.aload_n 0, 1) := by decide +kernel
theorem dX5_count_7 : decode cX5_count 7 = .ok (.iload_n 1, 1) := by decide +kernel
theorem dX5_count_8 : decode cX5_count 8 = .ok (.bipush 10, 2) := by decide +kernel
theorem dX5_count_10 : decode cX5_count 10 = .ok (.idiv, 1) := by decide +kernel
theorem dX5_count_11 : decode cX5_count 11 = .ok (.iconst 1, 1) := by decide +kernel
theorem dX5_count_12 : decode cX5_count 12 = .ok (.isub, 1) := by decide +kernel
theorem dX5_count_13 : decode cX5_count 13 = .ok (.invokevirtual 31, 3) := by decide +kernel
theorem dX5_count_16 : decode cX5_count 16 = .ok (.ifCond .eq 27, 3) := by decide +kernel
theorem dX5_count_19 : decode cX5_count 19 = .ok (.iload_n 1, 1) := by decide +kernel
theorem dX5_count_20 : decode cX5_count 20 = .ok (.bipush 10, 2) := by decide +kernel
theorem dX5_count_22 : decode cX5_count 22 = .ok (.irem, 1) := by decide +kernel
theorem dX5_count_23 : decode cX5_count 23 = .ok (.bipush 6, 2) := by decide +kernel
theorem dX5_count_25 : decode cX5_count 25 = .ok (.if_icmp .ge 18, 3) := by decide +kernel
theorem dX5_count_28 : decode cX5_count 28 = .ok (.aload_n 0, 1) := by decide +kernel
theorem dX5_count_29 : decode cX5_count 29 = .ok (.iload_n 1, 1) := by decide +kernel
theorem dX5_count_30 : decode cX5_count 30 = .ok (.bipush 10, 2) := by decide +kernel
theorem dX5_count_32 : decode cX5_count 32 = .ok (.idiv, 1) := by decide +kernel
theorem dX5_count_33 : decode cX5_count 33 = .ok (.iconst 1, 1) := by decide +kernel
theorem dX5_count_34 : decode cX5_count 34 = .ok (.isub, 1) := by decide +kernel
theorem dX5_count_35 : decode cX5_count 35 = .ok (.iload_n 1, 1) := by decide +kernel
theorem dX5_count_36 : decode cX5_count 36 = .ok (.bipush 10, 2) := by decide +kernel
theorem dX5_count_38 : decode cX5_count 38 = .ok (.irem, 1) := by decide +kernel
theorem dX5_count_39 : decode cX5_count 39 = .ok (.invokevirtual 39, 3) := by decide +kernel
theorem dX5_count_42 : decode cX5_count 42 = .ok (.ireturn, 1) := by decide +kernel
theorem dX5_count_43 : decode cX5_count 43 = .ok (.iload_n 1, 1) := by decide +kernel
theorem dX5_count_44 : decode cX5_count 44 = .ok (.tableswitch 112 0 6 #[44, 51, 58, 65, 72, 77, 82], 44) := by decide +kernel
theorem dX5_count_88 : decode cX5_count 88 = .ok (.aload_n 0, 1) := by decide +kernel
theorem dX5_count_89 : decode cX5_count 89 = .ok (.getfield 7, 3) := by decide +kernel
theorem dX5_count_92 : decode cX5_count 92 = .ok (.iconst 0, 1) := by decide +kernel
theorem dX5_count_93 : decode cX5_count 93 = .ok (.iaload, 1) := by decide +kernel
theorem dX5_count_94 : decode cX5_count 94 = .ok (.ireturn, 1) := by decide +kernel
theorem dX5_count_95 : decode cX5_count 95 = .ok (.aload_n 0, 1) := by decide +kernel
theorem dX5_count_96 : decode cX5_count 96 = .ok (.getfield 7, 3) := by decide +kernel
theorem dX5_count_99 : decode cX5_count 99 = .ok (.iconst 1, 1) := by decide +kernel
theorem dX5_count_100 : decode cX5_count 100 = .ok (.iaload, 1) := by decide +kernel
theorem dX5_count_101 : decode cX5_count 101 = .ok (.ireturn, 1) := by decide +kernel
theorem dX5_count_102 : decode cX5_count 102 = .ok (.aload_n 0, 1) := by decide +kernel
theorem dX5_count_103 : decode cX5_count 103 = .ok (.getfield 7, 3) := by decide +kernel
theorem dX5_count_106 : decode cX5_count 106 = .ok (.iconst 2, 1) := by decide +kernel
theorem dX5_count_107 : decode cX5_count 107 = .ok (.iaload, 1) := by decide +kernel
theorem dX5_count_108 : decode cX5_count 108 = .ok (.ireturn, 1) := by decide +kernel
theorem dX5_count_109 : decode cX5_count 109 = .ok (.aload_n 0, 1) := by decide +kernel
theorem dX5_count_110 : decode cX5_count 110 = .ok (.getfield 7, 3) := by decide +kernel
theorem dX5_count_113 : decode cX5_count 113 = .ok (.iconst 3, 1) := by decide +kernel
theorem dX5_count_114 : decode cX5_count 114 = .ok (.iaload, 1) := by decide +kernel
theorem dX5_count_115 : decode cX5_count 115 = .ok (.ireturn, 1) := by decide +kernel
theorem dX5_count_116 : decode cX5_count 116 = .ok (.aload_n 0, 1) := by decide +kernel
theorem dX5_count_117 : decode cX5_count 117 = .ok (.invokevirtual 98, 3) := by decide +kernel
theorem dX5_count_120 : decode cX5_count 120 = .ok (.ireturn, 1) := by decide +kernel
theorem dX5_count_121 : decode cX5_count 121 = .ok (.aload_n 0, 1) := by decide +kernel
theorem dX5_count_122 : decode cX5_count 122 = .ok (.invokevirtual 102, 3) := by decide +kernel
theorem dX5_count_125 : decode cX5_count 125 = .ok (.ireturn, 1) := by decide +kernel
theorem dX5_count_126 : decode cX5_count 126 = .ok (.aload_n 0, 1) := by decide +kernel
theorem dX5_count_127 : decode cX5_count 127 = .ok (.getfield 16, 3) := by decide +kernel
theorem dX5_count_130 : decode cX5_count 130 = .ok (.iconst 0, 1) := by decide +kernel
theorem dX5_count_131 : decode cX5_count 131 = .ok (.baload, 1) := by decide +kernel
theorem dX5_count_132 : decode cX5_count 132 = .ok (.ifCond .eq 7, 3) := by decide +kernel
theorem dX5_count_135 : decode cX5_count 135 = .ok (.iconst 1, 1) := by decide +kernel
theorem dX5_count_136 : decode cX5_count 136 = .ok (.goto 4, 3) := by decide +kernel
theorem dX5_count_139 : decode cX5_count 139 = .ok (.iconst 0, 1) := by decide +kernel
theorem dX5_count_140 : decode cX5_count 140 = .ok (.aload_n 0, 1) := by decide +kernel
theorem dX5_count_141 : decode cX5_count 141 = .ok (.getfield 16, 3) := by decide +kernel
theorem dX5_count_144 : decode cX5_count 144 = .ok (.iconst 1, 1) := by decide +kernel
theorem dX5_count_145 : decode cX5_count 145 = .ok (.baload, 1) := by decide +kernel
theorem dX5_count_146 : decode cX5_count 146 = .ok (.ifCond .eq 7, 3) := by decide +kernel
theorem dX5_count_149 : decode cX5_count 149 = .ok (.iconst 2, 1) := by decide +kernel
theorem dX5_count_150 : decode cX5_count 150 = .ok (.goto 4, 3) := by decide +kernel
theorem dX5_count_153 : decode cX5_count 153 = .ok (.iconst 0, 1) := by decide +kernel
theorem dX5_count_154 : decode cX5_count 154 = .ok (.iadd, 1) := by decide +kernel
theorem dX5_count_155 : decode cX5_count 155 = .ok (.ireturn, 1) := by decide +kernel
theorem dX5_count_156 : decode cX5_count 156 = .ok (.bipush (-2), 2) := by decide +kernel
theorem dX5_count_158 : decode cX5_count 158 = .ok (.ireturn, 1) := by decide +kernel
theorem dJ9_min_7cf53_0 : decode cJ9_min_7cf53 0 = .ok (.iload_n 0, 1) := by decide +kernel
theorem dJ9_min_7cf53_1 : decode cJ9_min_7cf53 1 = .ok (.iload_n 1, 1) := by decide +kernel
theorem dJ9_min_7cf53_2 : decode cJ9_min_7cf53 2 = .ok (.if_icmp .gt 7, 3) := by decide +kernel
theorem dJ9_min_7cf53_5 : decode cJ9_min_7cf53 5 = .ok (.iload_n 0, 1) := by decide +kernel
theorem dJ9_min_7cf53_6 : decode cJ9_min_7cf53 6 = .ok (.goto 4, 3) := by decide +kernel
theorem dJ9_min_7cf53_9 : decode cJ9_min_7cf53 9 = .ok (.iload_n 1, 1) := by decide +kernel
theorem dJ9_min_7cf53_10 : decode cJ9_min_7cf53 10 = .ok (.ireturn, 1) := by decide +kernel
theorem dJ7_fill_53178_0 : decode cJ7_fill_53178 0 = .ok (.iconst 0, 1) := by decide +kernel
theorem dJ7_fill_53178_1 : decode cJ7_fill_53178 1 = .ok (.istore_n 2, 1) := by decide +kernel
theorem dJ7_fill_53178_2 : decode cJ7_fill_53178 2 = .ok (.aload_n 0, 1) := by decide +kernel
theorem dJ7_fill_53178_3 : decode cJ7_fill_53178 3 = .ok (.arraylength, 1) := by decide +kernel
theorem dJ7_fill_53178_4 : decode cJ7_fill_53178 4 = .ok (.istore_n 3, 1) := by decide +kernel
theorem dJ7_fill_53178_5 : decode cJ7_fill_53178 5 = .ok (.iload_n 2, 1) := by decide +kernel
theorem dJ7_fill_53178_6 : decode cJ7_fill_53178 6 = .ok (.iload_n 3, 1) := by decide +kernel
theorem dJ7_fill_53178_7 : decode cJ7_fill_53178 7 = .ok (.if_icmp .ge 13, 3) := by decide +kernel
theorem dJ7_fill_53178_10 : decode cJ7_fill_53178 10 = .ok (.aload_n 0, 1) := by decide +kernel
theorem dJ7_fill_53178_11 : decode cJ7_fill_53178 11 = .ok (.iload_n 2, 1) := by decide +kernel
theorem dJ7_fill_53178_12 : decode cJ7_fill_53178 12 = .ok (.iload_n 1, 1) := by decide +kernel
theorem dJ7_fill_53178_13 : decode cJ7_fill_53178 13 = .ok (.iastore, 1) := by decide +kernel
theorem dJ7_fill_53178_14 : decode cJ7_fill_53178 14 = .ok (.iinc 2 1, 3) := by decide +kernel
theorem dJ7_fill_53178_17 : decode cJ7_fill_53178 17 = .ok (.goto (-12), 3) := by decide +kernel
theorem dJ7_fill_53178_20 : decode cJ7_fill_53178 20 = .ok (.return_, 1) := by decide +kernel
