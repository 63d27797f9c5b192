theorem dX0_init_0 : decode cX0_init 0 = .ok (.aload_n 0, 1) := by decide +kernel
theorem dX0_init_1 : decode cX0_init 1 = .ok (.invokespecial 3, 3) := by decide +kernel
theorem dX0_init_4 : decode cX0_init 4 = .ok (.aload_n 0, 1) := by decide +kernel
theorem dX0_init_5 : decode cX0_init 5 = .ok (.bipush 25, 2) := by decide +kernel
theorem dX0_init_7 : decode cX0_init 7 = .ok (.newarray .int, 2) := by decide +kernel
theorem dX0_init_9 : decode cX0_init 9 = .ok (.putfield 9, 3) := by decide +kernel
theorem dX0_init_12 : decode cX0_init 12 = .ok (.aload_n 0, 1) := by decide +kernel
theorem dX0_init_13 : decode cX0_init 13 = .ok (.iconst 5, 1) := by decide +kernel
theorem dX0_init_14 : decode cX0_init 14 = .ok (.newarray .int, 2) := by decide +kernel
theorem dX0_init_16 : decode cX0_init 16 = .ok (.putfield 15, 3) := by decide +kernel
theorem dX0_init_19 : decode cX0_init 19 = .ok (.return_, 1) := by decide +kernel
set_option maxRecDepth 20000 in
theorem ggX0_begin_J7_fill_53178 : GoodIn wsX0_begin wsJ7_fill_53178 := goodIn_r _ [6] (by decide +kernel) (by decide +kernel)
set_option maxRecDepth 20000 in
theorem gX0_begin_J7_fill_53178 : GoodIn wsX0_begin (va_wsS RX0 19 yJ7_fill_53178 wsJ7_fill_53178) := goodIn_app (goodIn_of _ (by decide +kernel)) ggX0_begin_J7_fill_53178
theorem dX0_begin_0 : decode cX0_begin 0 = .ok (.aload_n 0, 1) := by decide +kernel
theorem dX0_begin_1 : decode cX0_begin 1 = .ok (.getfield 9, 3) := by decide +kernel
theorem dX0_begin_4 : decode cX0_begin 4 = .ok (.ldc 18, 2) := by decide +kernel
theorem dX0_begin_6 : decode cX0_begin 6 = .ok (.invokestatic 19, 3) := by decide +kernel
theorem dX0_begin_9 : decode cX0_begin 9 = .ok (.return_, 1) := by decide +kernel
theorem dX0_copyFrom_0 : decode cX0_copyFrom 0 = .ok (.aload_n 1, 1) := by decide +kernel
theorem dX0_copyFrom_1 : decode cX0_copyFrom 1 = .ok (.getfield 9, 3) := by decide +kernel
theorem dX0_copyFrom_4 : decode cX0_copyFrom 4 = .ok (.iconst 0, 1) := by decide +kernel
theorem dX0_copyFrom_5 : decode cX0_copyFrom 5 = .ok (.aload_n 0, 1) := by decide +kernel
theorem dX0_copyFrom_6 : decode cX0_copyFrom 6 = .ok (.getfield 9, 3) := by decide +kernel
theorem dX0_copyFrom_9 : decode cX0_copyFrom 9 = .ok (.iconst 0, 1) := by decide +kernel
theorem dX0_copyFrom_10 : decode cX0_copyFrom 10 = .ok (.aload_n 0, 1) := by decide +kernel
theorem dX0_copyFrom_11 : decode cX0_copyFrom 11 = .ok (.getfield 9, 3) := by decide +kernel
theorem dX0_copyFrom_14 : decode cX0_copyFrom 14 = .ok (.arraylength, 1) := by decide +kernel
theorem dX0_copyFrom_15 : decode cX0_copyFrom 15 = .ok (.invokestatic 25, 3) := by decide +kernel
theorem dX0_copyFrom_18 : decode cX0_copyFrom 18 = .ok (.return_, 1) := by decide +kernel
theorem dX0_cell_0 : decode cX0_cell 0 = .ok (.iload_n 0, 1) := by decide +kernel
theorem dX0_cell_1 : decode cX0_cell 1 = .ok (.iconst 5, 1) := by decide +kernel
theorem dX0_cell_2 : decode cX0_cell 2 = .ok (.imul, 1) := by decide +kernel
theorem dX0_cell_3 : decode cX0_cell 3 = .ok (.iload_n 1, 1) := by decide +kernel
theorem dX0_cell_4 : decode cX0_cell 4 = .ok (.iadd, 1) := by decide +kernel
theorem dX0_cell_5 : decode cX0_cell 5 = .ok (.ireturn, 1) := by decide +kernel
set_option maxRecDepth 20000 in
theorem ggX0_forget_X0_cell : GoodIn wsX0_forget wsX0_cell := goodIn_r _ [6] (by decide +kernel) (by decide +kernel)
set_option maxRecDepth 20000 in
theorem gX0_forget_X0_cell : GoodIn wsX0_forget (va_wsS RX0 31 yX0_cell wsX0_cell) := goodIn_app (goodIn_of _ (by decide +kernel)) ggX0_forget_X0_cell
theorem dX0_forget_0 : decode cX0_forget 0 = .ok (.iconst 0, 1) := by decide +kernel
theorem dX0_forget_1 : decode cX0_forget 1 = .ok (.istore_n 2, 1) := by decide +kernel
theorem dX0_forget_2 : decode cX0_forget 2 = .ok (.iload_n 2, 1) := by decide +kernel
theorem dX0_forget_3 : decode cX0_forget 3 = .ok (.iconst 5, 1) := by decide +kernel
theorem dX0_forget_4 : decode cX0_forget 4 = .ok (.if_icmp .ge 33, 3) := by decide +kernel
theorem dX0_forget_7 : decode cX0_forget 7 = .ok (.aload_n 0, 1) := by decide +kernel
theorem dX0_forget_8 : decode cX0_forget 8 = .ok (.getfield 9, 3) := by decide +kernel
theorem dX0_forget_11 : decode cX0_forget 11 = .ok (.iload_n 1, 1) := by decide +kernel
theorem dX0_forget_12 : decode cX0_forget 12 = .ok (.iload_n 2, 1) := by decide +kernel
theorem dX0_forget_13 : decode cX0_forget 13 = .ok (.invokestatic 31, 3) := by decide +kernel
theorem dX0_forget_16 : decode cX0_forget 16 = .ok (.ldc 18, 2) := by decide +kernel
theorem dX0_forget_18 : decode cX0_forget 18 = .ok (.iastore, 1) := by decide +kernel
theorem dX0_forget_19 : decode cX0_forget 19 = .ok (.aload_n 0, 1) := by decide +kernel
theorem dX0_forget_20 : decode cX0_forget 20 = .ok (.getfield 9, 3) := by decide +kernel
theorem dX0_forget_23 : decode cX0_forget 23 = .ok (.iload_n 2, 1) := by decide +kernel
theorem dX0_forget_24 : decode cX0_forget 24 = .ok (.iload_n 1, 1) := by decide +kernel
theorem dX0_forget_25 : decode cX0_forget 25 = .ok (.invokestatic 31, 3) := by decide +kernel
theorem dX0_forget_28 : decode cX0_forget 28 = .ok (.ldc 18, 2) := by decide +kernel
theorem dX0_forget_30 : decode cX0_forget 30 = .ok (.iastore, 1) := by decide +kernel
theorem dX0_forget_31 : decode cX0_forget 31 = .ok (.iinc 2 1, 3) := by decide +kernel
theorem dX0_forget_34 : decode cX0_forget 34 = .ok (.goto (-32), 3) := by decide +kernel
theorem dX0_forget_37 : decode cX0_forget 37 = .ok (.return_, 1) := by decide +kernel
set_option maxRecDepth 20000 in
theorem ggX0_narrow_X0_cell : GoodIn wsX0_narrow wsX0_cell := goodIn_r _ [9] (by decide +kernel) (by decide +kernel)
set_option maxRecDepth 20000 in
theorem gX0_narrow_X0_cell : GoodIn wsX0_narrow (va_wsS RX0 31 yX0_cell wsX0_cell) := goodIn_app (goodIn_of _ (by decide +kernel)) ggX0_narrow_X0_cell
theorem dX0_narrow_0 : decode cX0_narrow 0 = .ok (.aload_n 0, 1) := by decide +kernel
theorem dX0_narrow_1 : decode cX0_narrow 1 = .ok (.getfield 9, 3) := by decide +kernel
theorem dX0_narrow_4 : decode cX0_narrow 4 = .ok (.iload_n 1, 1) := by decide +kernel
theorem dX0_narrow_5 : decode cX0_narrow 5 = .ok (.iload_n 2, 1) := by decide +kernel
theorem dX0_narrow_6 : decode cX0_narrow 6 = .ok (.invokestatic 31, 3) := by decide +kernel
theorem dX0_narrow_9 : decode cX0_narrow 9 = .ok (.aload_n 0, 1) := by decide +kernel
theorem dX0_narrow_10 : decode cX0_narrow 10 = .ok (.getfield 9, 3) := by decide +kernel
theorem dX0_narrow_13 : decode cX0_narrow 13 = .ok (.iload_n 1, 1) := by decide +kernel
theorem dX0_narrow_14 : decode cX0_narrow 14 = .ok (.iload_n 2, 1) := by decide +kernel
theorem dX0_narrow_15 : decode cX0_narrow 15 = .ok (.invokestatic 31, 3) := by decide +kernel
theorem dX0_narrow_18 : decode cX0_narrow 18 = .ok (.iaload, 1) := by decide +kernel
theorem dX0_narrow_19 : decode cX0_narrow 19 = .ok (.iload_n 3, 1) := by decide +kernel
theorem dX0_narrow_20 : decode cX0_narrow 20 = .ok (.invokestatic 35, 3) := by decide +kernel
theorem dX0_narrow_23 : decode cX0_narrow 23 = .ok (.iastore, 1) := by decide +kernel
theorem dX0_narrow_24 : decode cX0_narrow 24 = .ok (.aload_n 0, 1) := by decide +kernel
theorem dX0_narrow_25 : decode cX0_narrow 25 = .ok (.getfield 9, 3) := by decide +kernel
theorem dX0_narrow_28 : decode cX0_narrow 28 = .ok (.iload_n 2, 1) := by decide +kernel
theorem dX0_narrow_29 : decode cX0_narrow 29 = .ok (.iload_n 1, 1) := by decide +kernel
theorem dX0_narrow_30 : decode cX0_narrow 30 = .ok (.invokestatic 31, 3) := by decide +kernel
theorem dX0_narrow_33 : decode cX0_narrow 33 = .ok (.aload_n 0, 1) := by decide +kernel
theorem dX0_narrow_34 : decode cX0_narrow 34 = .ok (.getfield 9, 3) := by decide +kernel
theorem dX0_narrow_37 : decode cX0_narrow 37 = .ok (.iload_n 2, 1) := by decide +kernel
theorem dX0_narrow_38 : decode cX0_narrow 38 = .ok (.iload_n 1, 1) := by decide +kernel
theorem dX0_narrow_39 : decode cX0_narrow 39 = .ok (.invokestatic 31, 3) := by decide +kernel
theorem dX0_narrow_42 : decode cX0_narrow 42 = .ok (.iaload, 1) := by decide +kernel
theorem dX0_narrow_43 : decode cX0_narrow 43 = .ok (.iload 4, 2) := by decide +kernel
theorem dX0_narrow_45 : decode cX0_narrow 45 = .ok (.ineg, 1) := by decide +kernel
theorem dX0_narrow_46 : decode cX0_narrow 46 = .ok (.invokestatic 35, 3) := by decide +kernel
theorem dX0_narrow_49 : decode cX0_narrow 49 = .ok (.iastore, 1) := by decide +kernel
theorem dX0_narrow_50 : decode cX0_narrow 50 = .ok (.return_, 1) := by decide +kernel
set_option maxRecDepth 20000 in
theorem ggX0_hasBoth_X0_cell : GoodIn wsX0_hasBoth wsX0_cell := goodIn_r _ [6] (by decide +kernel) (by decide +kernel)
set_option maxRecDepth 20000 in
theorem gX0_hasBoth_X0_cell : GoodIn wsX0_hasBoth (va_wsS RX0 31 yX0_cell wsX0_cell) := goodIn_app (goodIn_of _ (by decide +kernel)) ggX0_hasBoth_X0_cell
theorem dX0_hasBoth_0 : decode cX0_hasBoth 0 = .ok (.aload_n 0, 1) := by decide +kernel
theorem dX0_hasBoth_1 : decode cX0_hasBoth 1 = .ok (.getfield 9, 3) := by decide +kernel
theorem dX0_hasBoth_4 : decode cX0_hasBoth 4 = .ok (.iload_n 1, 1) := by decide +kernel
theorem dX0_hasBoth_5 : decode cX0_hasBoth 5 = .ok (.iload_n 2, 1) := by decide +kernel
theorem dX0_hasBoth_6 : decode cX0_hasBoth 6 = .ok (.invokestatic 31, 3) := by decide +kernel
theorem dX0_hasBoth_9 : decode cX0_hasBoth 9 = .ok (.iaload, 1) := by decide +kernel
theorem dX0_hasBoth_10 : decode cX0_hasBoth 10 = .ok (.ldc 18, 2) := by decide +kernel
theorem dX0_hasBoth_12 : decode cX0_hasBoth 12 = .ok (.if_icmp .eq 7, 3) := by decide +kernel
theorem dX0_hasBoth_15 : decode cX0_hasBoth 15 = .ok (.iconst 1, 1) := by decide +kernel
theorem dX0_hasBoth_16 : decode cX0_hasBoth 16 = .ok (.goto 4, 3) := by decide +kernel
theorem dX0_hasBoth_19 : decode cX0_hasBoth 19 = .ok (.iconst 0, 1) := by decide +kernel
theorem dX0_hasBoth_20 : decode cX0_hasBoth 20 = .ok (.ireturn, 1) := by decide +kernel
set_option maxRecDepth 20000 in
theorem ggX0_high_X0_cell : GoodIn wsX0_high wsX0_cell := goodIn_r _ [5] (by decide +kernel) (by decide +kernel)
set_option maxRecDepth 20000 in
theorem gX0_high_X0_cell : GoodIn wsX0_high (va_wsS RX0 31 yX0_cell wsX0_cell) := goodIn_app (goodIn_of _ (by decide +kernel)) ggX0_high_X0_cell
theorem dX0_high_0 : decode cX0_high 0 = .ok (.aload_n 0, 1) := by decide +kernel
theorem dX0_high_1 : decode cX0_high 1 = .ok (.getfield 9, 3) := by decide +kernel
theorem dX0_high_4 : decode cX0_high 4 = .ok (.iload_n 1, 1) := by decide +kernel
theorem dX0_high_5 : decode cX0_high 5 = .ok (.iload_n 2, 1) := by decide +kernel
theorem dX0_high_6 : decode cX0_high 6 = .ok (.invokestatic 31, 3) := by decide +kernel
theorem dX0_high_9 : decode cX0_high 9 = .ok (.iaload, 1) := by decide +kernel
theorem dX0_high_10 : decode cX0_high 10 = .ok (.ireturn, 1) := by decide +kernel
set_option maxRecDepth 20000 in
theorem ggX0_low_X0_cell : GoodIn wsX0_low wsX0_cell := goodIn_r _ [5] (by decide +kernel) (by decide +kernel)
set_option maxRecDepth 20000 in
theorem gX0_low_X0_cell : GoodIn wsX0_low (va_wsS RX0 31 yX0_cell wsX0_cell) := goodIn_app (goodIn_of _ (by decide +kernel)) ggX0_low_X0_cell
theorem dX0_low_0 : decode cX0_low 0 = .ok (.aload_n 0, 1) := by decide +kernel
theorem dX0_low_1 : decode cX0_low 1 = .ok (.getfield 9, 3) := by decide +kernel
theorem dX0_low_4 : decode cX0_low 4 = .ok (.iload_n 2, 1) := by decide +kernel
theorem dX0_low_5 : decode cX0_low 5 = .ok (.iload_n 1, 1) := by decide +kernel
theorem dX0_low_6 : decode cX0_low 6 = .ok (.invokestatic 31, 3) := by decide +kernel
theorem dX0_low_9 : decode cX0_low 9 = .ok (.iaload, 1) := by decide +kernel
theorem dX0_low_10 : decode cX0_low 10 = .ok (.ineg, 1) := by decide +kernel
theorem dX0_low_11 : decode cX0_low 11 = .ok (.ireturn, 1) := by decide +kernel
set_option maxRecDepth 20000 in
theorem ggX0_pairs_X0_hasBoth : GoodIn wsX0_pairs wsX0_hasBoth := goodIn_r _ [5, 6, 7, 8, 9, 4, 10, 11, 12] (by decide +kernel) (by decide +kernel)
set_option maxRecDepth 20000 in
theorem gX0_pairs_X0_hasBoth : GoodIn wsX0_pairs (wsV RX0 40 RX0 yX0_hasBoth wsX0_hasBoth) := goodIn_app (goodIn_of _ (by decide +kernel)) ggX0_pairs_X0_hasBoth
theorem dX0_pairs_0 : decode cX0_pairs 0 = .ok (.iconst 0, 1) := by decide +kernel
theorem dX0_pairs_1 : decode cX0_pairs 1 = .ok (.istore_n 1, 1) := by decide +kernel
theorem dX0_pairs_2 : decode cX0_pairs 2 = .ok (.iconst 0, 1) := by decide +kernel
theorem dX0_pairs_3 : decode cX0_pairs 3 = .ok (.istore_n 2, 1) := by decide +kernel
theorem dX0_pairs_4 : decode cX0_pairs 4 = .ok (.iload_n 2, 1) := by decide +kernel
theorem dX0_pairs_5 : decode cX0_pairs 5 = .ok (.iconst 5, 1) := by decide +kernel
theorem dX0_pairs_6 : decode cX0_pairs 6 = .ok (.if_icmp .ge 36, 3) := by decide +kernel
theorem dX0_pairs_9 : decode cX0_pairs 9 = .ok (.iload_n 2, 1) := by decide +kernel
theorem dX0_pairs_10 : decode cX0_pairs 10 = .ok (.iconst 1, 1) := by decide +kernel
theorem dX0_pairs_11 : decode cX0_pairs 11 = .ok (.iadd, 1) := by decide +kernel
theorem dX0_pairs_12 : decode cX0_pairs 12 = .ok (.istore_n 3, 1) := by decide +kernel
theorem dX0_pairs_13 : decode cX0_pairs 13 = .ok (.iload_n 3, 1) := by decide +kernel
theorem dX0_pairs_14 : decode cX0_pairs 14 = .ok (.iconst 5, 1) := by decide +kernel
theorem dX0_pairs_15 : decode cX0_pairs 15 = .ok (.if_icmp .ge 21, 3) := by decide +kernel
theorem dX0_pairs_18 : decode cX0_pairs 18 = .ok (.aload_n 0, 1) := by decide +kernel
theorem dX0_pairs_19 : decode cX0_pairs 19 = .ok (.iload_n 2, 1) := by decide +kernel
theorem dX0_pairs_20 : decode cX0_pairs 20 = .ok (.iload_n 3, 1) := by decide +kernel
theorem dX0_pairs_21 : decode cX0_pairs 21 = .ok (.invokevirtual 40, 3) := by decide +kernel
theorem dX0_pairs_24 : decode cX0_pairs 24 = .ok (.ifCond .eq 6, 3) := by decide +kernel
theorem dX0_pairs_27 : decode cX0_pairs 27 = .ok (.iinc 1 1, 3) := by decide +kernel
theorem dX0_pairs_30 : decode cX0_pairs 30 = .ok (.iinc 3 1, 3) := by decide +kernel
theorem dX0_pairs_33 : decode cX0_pairs 33 = .ok (.goto (-20), 3) := by decide +kernel
theorem dX0_pairs_36 : decode cX0_pairs 36 = .ok (.iinc 2 1, 3) := by decide +kernel
theorem dX0_pairs_39 : decode cX0_pairs 39 = .ok (.goto (-35), 3) := by decide +kernel
theorem dX0_pairs_42 : decode cX0_pairs 42 = .ok (.iload_n 1, 1) := by decide +kernel
theorem dX0_pairs_43 : decode cX0_pairs 43 = .ok (.ireturn, 1) := by decide +kernel
set_option maxRecDepth 20000 in
theorem ggX0_tightest_J7_fill_53178 : GoodIn wsX0_tightest wsJ7_fill_53178 := goodIn_r _ [6] (by decide +kernel) (by decide +kernel)
set_option maxRecDepth 20000 in
theorem gX0_tightest_J7_fill_53178 : GoodIn wsX0_tightest (va_wsS RX0 19 yJ7_fill_53178 wsJ7_fill_53178) := goodIn_app (goodIn_of _ (by decide +kernel)) ggX0_tightest_J7_fill_53178
set_option maxRecDepth 20000 in
theorem ggX0_tightest_X0_stepFrom : GoodIn wsX0_tightest wsX0_stepFrom := goodIn_r _ [11, 1, 2, 12, 13, 14, 15, 16, 17, 18, 10, 19, 20, 21] (by decide +kernel) (by decide +kernel)
set_option maxRecDepth 20000 in
theorem gX0_tightest_X0_stepFrom : GoodIn wsX0_tightest (wsV RX0 44 RX0 yX0_stepFrom wsX0_stepFrom) := goodIn_app (goodIn_of _ (by decide +kernel)) ggX0_tightest_X0_stepFrom
theorem dX0_tightest_0 : decode cX0_tightest 0 = .ok (.aload_n 0, 1) := by decide +kernel
theorem dX0_tightest_1 : decode cX0_tightest 1 = .ok (.getfield 15, 3) := by decide +kernel
theorem dX0_tightest_4 : decode cX0_tightest 4 = .ok (.ldc 18, 2) := by decide +kernel
theorem dX0_tightest_6 : decode cX0_tightest 6 = .ok (.invokestatic 19, 3) := by decide +kernel
theorem dX0_tightest_9 : decode cX0_tightest 9 = .ok (.aload_n 0, 1) := by decide +kernel
theorem dX0_tightest_10 : decode cX0_tightest 10 = .ok (.getfield 15, 3) := by decide +kernel
theorem dX0_tightest_13 : decode cX0_tightest 13 = .ok (.iload_n 1, 1) := by decide +kernel
theorem dX0_tightest_14 : decode cX0_tightest 14 = .ok (.iconst 0, 1) := by decide +kernel
theorem dX0_tightest_15 : decode cX0_tightest 15 = .ok (.iastore, 1) := by decide +kernel
theorem dX0_tightest_16 : decode cX0_tightest 16 = .ok (.iconst 1, 1) := by decide +kernel
theorem dX0_tightest_17 : decode cX0_tightest 17 = .ok (.istore_n 3, 1) := by decide +kernel
theorem dX0_tightest_18 : decode cX0_tightest 18 = .ok (.iload_n 3, 1) := by decide +kernel
theorem dX0_tightest_19 : decode cX0_tightest 19 = .ok (.iconst 5, 1) := by decide +kernel
theorem dX0_tightest_20 : decode cX0_tightest 20 = .ok (.if_icmp .ge 30, 3) := by decide +kernel
theorem dX0_tightest_23 : decode cX0_tightest 23 = .ok (.iconst 0, 1) := by decide +kernel
theorem dX0_tightest_24 : decode cX0_tightest 24 = .ok (.istore 4, 2) := by decide +kernel
theorem dX0_tightest_26 : decode cX0_tightest 26 = .ok (.iload 4, 2) := by decide +kernel
theorem dX0_tightest_28 : decode cX0_tightest 28 = .ok (.iconst 5, 1) := by decide +kernel
theorem dX0_tightest_29 : decode cX0_tightest 29 = .ok (.if_icmp .ge 15, 3) := by decide +kernel
theorem dX0_tightest_32 : decode cX0_tightest 32 = .ok (.aload_n 0, 1) := by decide +kernel
theorem dX0_tightest_33 : decode cX0_tightest 33 = .ok (.iload 4, 2) := by decide +kernel
theorem dX0_tightest_35 : decode cX0_tightest 35 = .ok (.invokevirtual 44, 3) := by decide +kernel
theorem dX0_tightest_38 : decode cX0_tightest 38 = .ok (.iinc 4 1, 3) := by decide +kernel
theorem dX0_tightest_41 : decode cX0_tightest 41 = .ok (.goto (-15), 3) := by decide +kernel
theorem dX0_tightest_44 : decode cX0_tightest 44 = .ok (.iinc 3 1, 3) := by decide +kernel
theorem dX0_tightest_47 : decode cX0_tightest 47 = .ok (.goto (-29), 3) := by decide +kernel
theorem dX0_tightest_50 : decode cX0_tightest 50 = .ok (.aload_n 0, 1) := by decide +kernel
theorem dX0_tightest_51 : decode cX0_tightest 51 = .ok (.getfield 15, 3) := by decide +kernel
theorem dX0_tightest_54 : decode cX0_tightest 54 = .ok (.iload_n 2, 1) := by decide +kernel
theorem dX0_tightest_55 : decode cX0_tightest 55 = .ok (.iaload, 1) := by decide +kernel
theorem dX0_tightest_56 : decode cX0_tightest 56 = .ok (.ireturn, 1) := by decide +kernel
set_option maxRecDepth 20000 in
theorem ggX0_stepFrom_X0_cell : GoodIn wsX0_stepFrom wsX0_cell := goodIn_r _ [11] (by decide +kernel) (by decide +kernel)
set_option maxRecDepth 20000 in
theorem gX0_stepFrom_X0_cell : GoodIn wsX0_stepFrom (va_wsS RX0 31 yX0_cell wsX0_cell) := goodIn_app (goodIn_of _ (by decide +kernel)) ggX0_stepFrom_X0_cell
theorem dX0_stepFrom_0 : decode cX0_stepFrom 0 = .ok (.aload_n 0, 1) := by decide +kernel
theorem dX0_stepFrom_1 : decode cX0_stepFrom 1 = .ok (.getfield 15, 3) := by decide +kernel
theorem dX0_stepFrom_4 : decode cX0_stepFrom 4 = .ok (.iload_n 1, 1) := by decide +kernel
theorem dX0_stepFrom_5 : decode cX0_stepFrom 5 = .ok (.iaload, 1) := by decide +kernel
theorem dX0_stepFrom_6 : decode cX0_stepFrom 6 = .ok (.ldc 18, 2) := by decide +kernel
theorem dX0_stepFrom_8 : decode cX0_stepFrom 8 = .ok (.if_icmp .ne 4, 3) := by decide +kernel
theorem dX0_stepFrom_11 : decode cX0_stepFrom 11 = .ok (.return_, 1) := by decide +kernel
theorem dX0_stepFrom_12 : decode cX0_stepFrom 12 = .ok (.iconst 0, 1) := by decide +kernel
theorem dX0_stepFrom_13 : decode cX0_stepFrom 13 = .ok (.istore_n 2, 1) := by decide +kernel
theorem dX0_stepFrom_14 : decode cX0_stepFrom 14 = .ok (.iload_n 2, 1) := by decide +kernel
theorem dX0_stepFrom_15 : decode cX0_stepFrom 15 = .ok (.iconst 5, 1) := by decide +kernel
theorem dX0_stepFrom_16 : decode cX0_stepFrom 16 = .ok (.if_icmp .ge 49, 3) := by decide +kernel
theorem dX0_stepFrom_19 : decode cX0_stepFrom 19 = .ok (.aload_n 0, 1) := by decide +kernel
theorem dX0_stepFrom_20 : decode cX0_stepFrom 20 = .ok (.getfield 9, 3) := by decide +kernel
theorem dX0_stepFrom_23 : decode cX0_stepFrom 23 = .ok (.iload_n 1, 1) := by decide +kernel
theorem dX0_stepFrom_24 : decode cX0_stepFrom 24 = .ok (.iload_n 2, 1) := by decide +kernel
theorem dX0_stepFrom_25 : decode cX0_stepFrom 25 = .ok (.invokestatic 31, 3) := by decide +kernel
theorem dX0_stepFrom_28 : decode cX0_stepFrom 28 = .ok (.iaload, 1) := by decide +kernel
theorem dX0_stepFrom_29 : decode cX0_stepFrom 29 = .ok (.istore_n 3, 1) := by decide +kernel
theorem dX0_stepFrom_30 : decode cX0_stepFrom 30 = .ok (.iload_n 3, 1) := by decide +kernel
theorem dX0_stepFrom_31 : decode cX0_stepFrom 31 = .ok (.ldc 18, 2) := by decide +kernel
theorem dX0_stepFrom_33 : decode cX0_stepFrom 33 = .ok (.if_icmp .eq 26, 3) := by decide +kernel
theorem dX0_stepFrom_36 : decode cX0_stepFrom 36 = .ok (.aload_n 0, 1) := by decide +kernel
theorem dX0_stepFrom_37 : decode cX0_stepFrom 37 = .ok (.getfield 15, 3) := by decide +kernel
theorem dX0_stepFrom_40 : decode cX0_stepFrom 40 = .ok (.iload_n 2, 1) := by decide +kernel
theorem dX0_stepFrom_41 : decode cX0_stepFrom 41 = .ok (.aload_n 0, 1) := by decide +kernel
theorem dX0_stepFrom_42 : decode cX0_stepFrom 42 = .ok (.getfield 15, 3) := by decide +kernel
theorem dX0_stepFrom_45 : decode cX0_stepFrom 45 = .ok (.iload_n 2, 1) := by decide +kernel
theorem dX0_stepFrom_46 : decode cX0_stepFrom 46 = .ok (.iaload, 1) := by decide +kernel
theorem dX0_stepFrom_47 : decode cX0_stepFrom 47 = .ok (.aload_n 0, 1) := by decide +kernel
theorem dX0_stepFrom_48 : decode cX0_stepFrom 48 = .ok (.getfield 15, 3) := by decide +kernel
theorem dX0_stepFrom_51 : decode cX0_stepFrom 51 = .ok (.iload_n 1, 1) := by decide +kernel
theorem dX0_stepFrom_52 : decode cX0_stepFrom 52 = .ok (.iaload, 1) := by decide +kernel
theorem dX0_stepFrom_53 : decode cX0_stepFrom 53 = .ok (.iload_n 3, 1) := by decide +kernel
theorem dX0_stepFrom_54 : decode cX0_stepFrom 54 = .ok (.iadd, 1) := by decide +kernel
theorem dX0_stepFrom_55 : decode cX0_stepFrom 55 = .ok (.invokestatic 35, 3) := by decide +kernel
theorem dX0_stepFrom_58 : decode cX0_stepFrom 58 = .ok (.iastore, 1) := by decide +kernel
theorem dX0_stepFrom_59 : decode cX0_stepFrom 59 = .ok (.iinc 2 1, 3) := by decide +kernel
theorem dX0_stepFrom_62 : decode cX0_stepFrom 62 = .ok (.goto (-48), 3) := by decide +kernel
theorem dX0_stepFrom_65 : decode cX0_stepFrom 65 = .ok (.return_, 1) := by decide +kernel
theorem dX1_init_0 : decode cX1_init 0 = .ok (.aload_n 0, 1) := by decide +kernel
theorem dX1_init_1 : decode cX1_init 1 = .ok (.invokespecial 3, 3) := by decide +kernel
theorem dX1_init_4 : decode cX1_init 4 = .ok (.aload_n 0, 1) := by decide +kernel
theorem dX1_init_5 : decode cX1_init 5 = .ok (.bipush 24, 2) := by decide +kernel
theorem dX1_init_7 : decode cX1_init 7 = .ok (.newarray .int, 2) := by decide +kernel
theorem dX1_init_9 : decode cX1_init 9 = .ok (.putfield 9, 3) := by decide +kernel
theorem dX1_init_12 : decode cX1_init 12 = .ok (.return_, 1) := by decide +kernel
theorem dX1_begin_0 : decode cX1_begin 0 = .ok (.iconst 0, 1) := by decide +kernel
theorem dX1_begin_1 : decode cX1_begin 1 = .ok (.istore_n 1, 1) := by decide +kernel
theorem dX1_begin_2 : decode cX1_begin 2 = .ok (.iload_n 1, 1) := by decide +kernel
theorem dX1_begin_3 : decode cX1_begin 3 = .ok (.iconst 4, 1) := by decide +kernel
theorem dX1_begin_4 : decode cX1_begin 4 = .ok (.if_icmp .ge 26, 3) := by decide +kernel
theorem dX1_begin_7 : decode cX1_begin 7 = .ok (.getstatic 15, 3) := by decide +kernel
theorem dX1_begin_10 : decode cX1_begin 10 = .ok (.iconst 0, 1) := by decide +kernel
theorem dX1_begin_11 : decode cX1_begin 11 = .ok (.aload_n 0, 1) := by decide +kernel
theorem dX1_begin_12 : decode cX1_begin 12 = .ok (.getfield 9, 3) := by decide +kernel
theorem dX1_begin_15 : decode cX1_begin 15 = .ok (.iload_n 1, 1) := by decide +kernel
theorem dX1_begin_16 : decode cX1_begin 16 = .ok (.bipush 6, 2) := by decide +kernel
theorem dX1_begin_18 : decode cX1_begin 18 = .ok (.imul, 1) := by decide +kernel
theorem dX1_begin_19 : decode cX1_begin 19 = .ok (.bipush 6, 2) := by decide +kernel
theorem dX1_begin_21 : decode cX1_begin 21 = .ok (.invokestatic 18, 3) := by decide +kernel
theorem dX1_begin_24 : decode cX1_begin 24 = .ok (.iinc 1 1, 3) := by decide +kernel
theorem dX1_begin_27 : decode cX1_begin 27 = .ok (.goto (-25), 3) := by decide +kernel
theorem dX1_begin_30 : decode cX1_begin 30 = .ok (.return_, 1) := by decide +kernel
theorem dX1_copyFrom_0 : decode cX1_copyFrom 0 = .ok (.aload_n 1, 1) := by decide +kernel
theorem dX1_copyFrom_1 : decode cX1_copyFrom 1 = .ok (.getfield 9, 3) := by decide +kernel
theorem dX1_copyFrom_4 : decode cX1_copyFrom 4 = .ok (.iconst 0, 1) := by decide +kernel
theorem dX1_copyFrom_5 : decode cX1_copyFrom 5 = .ok (.aload_n 0, 1) := by decide +kernel
theorem dX1_copyFrom_6 : decode cX1_copyFrom 6 = .ok (.getfield 9, 3) := by decide +kernel
theorem dX1_copyFrom_9 : decode cX1_copyFrom 9 = .ok (.iconst 0, 1) := by decide +kernel
theorem dX1_copyFrom_10 : decode cX1_copyFrom 10 = .ok (.aload_n 0, 1) := by decide +kernel
theorem dX1_copyFrom_11 : decode cX1_copyFrom 11 = .ok (.getfield 9, 3) := by decide +kernel
theorem dX1_copyFrom_14 : decode cX1_copyFrom 14 = .ok (.arraylength, 1) := by decide +kernel
theorem dX1_copyFrom_15 : decode cX1_copyFrom 15 = .ok (.invokestatic 18, 3) := by decide +kernel
theorem dX1_copyFrom_18 : decode cX1_copyFrom 18 = .ok (.return_, 1) := by decide +kernel
theorem dX1_read_0 : decode cX1_read 0 = .ok (.aload_n 0, 1) := by decide +kernel
theorem dX1_read_1 : decode cX1_read 1 = .ok (.getfield 9, 3) := by decide +kernel
theorem dX1_read_4 : decode cX1_read 4 = .ok (.iload_n 1, 1) := by decide +kernel
theorem dX1_read_5 : decode cX1_read 5 = .ok (.bipush 6, 2) := by decide +kernel
theorem dX1_read_7 : decode cX1_read 7 = .ok (.imul, 1) := by decide +kernel
theorem dX1_read_8 : decode cX1_read 8 = .ok (.iload_n 2, 1) := by decide +kernel
theorem dX1_read_9 : decode cX1_read 9 = .ok (.iadd, 1) := by decide +kernel
theorem dX1_read_10 : decode cX1_read 10 = .ok (.iaload, 1) := by decide +kernel
theorem dX1_read_11 : decode cX1_read 11 = .ok (.ireturn, 1) := by decide +kernel
theorem dX1_write_0 : decode cX1_write 0 = .ok (.aload_n 0, 1) := by decide +kernel
theorem dX1_write_1 : decode cX1_write 1 = .ok (.getfield 9, 3) := by decide +kernel
theorem dX1_write_4 : decode cX1_write 4 = .ok (.iload_n 1, 1) := by decide +kernel
theorem dX1_write_5 : decode cX1_write 5 = .ok (.bipush 6, 2) := by decide +kernel
theorem dX1_write_7 : decode cX1_write 7 = .ok (.imul, 1) := by decide +kernel
theorem dX1_write_8 : decode cX1_write 8 = .ok (.iload_n 2, 1) := by decide +kernel
theorem dX1_write_9 : decode cX1_write 9 = .ok (.iadd, 1) := by decide +kernel
theorem dX1_write_10 : decode cX1_write 10 = .ok (.iload_n 3, 1) := by decide +kernel
theorem dX1_write_11 : decode cX1_write 11 = .ok (.iastore, 1) := by decide +kernel
theorem dX1_write_12 : decode cX1_write 12 = .ok (.return_, 1) := by decide +kernel
set_option maxRecDepth 20000 in
theorem ggX1_ticksThere_X1_read : GoodIn wsX1_ticksThere wsX1_read := goodIn_r _ [5, 6, 10] (by decide +kernel) (by decide +kernel)
set_option maxRecDepth 20000 in
theorem gX1_ticksThere_X1_read : GoodIn wsX1_ticksThere (wsV RX1 24 RX1 yX1_read wsX1_read) := goodIn_app (goodIn_of _ (by decide +kernel)) ggX1_ticksThere_X1_read
set_option maxRecDepth 20000 in
theorem ggX1_ticksThere_X4_leftOver : GoodIn wsX1_ticksThere wsX4_leftOver := goodIn_r _ [9] (by decide +kernel) (by decide +kernel)
set_option maxRecDepth 20000 in
theorem gX1_ticksThere_X4_leftOver_n28 : GoodIn wsX1_ticksThere (wsX4_leftOver) := ggX1_ticksThere_X4_leftOver
theorem dX1_ticksThere_0 : decode cX1_ticksThere 0 = .ok (.aload_n 0, 1) := by decide +kernel
theorem dX1_ticksThere_1 : decode cX1_ticksThere 1 = .ok (.iload_n 1, 1) := by decide +kernel
theorem dX1_ticksThere_2 : decode cX1_ticksThere 2 = .ok (.iconst 0, 1) := by decide +kernel
theorem dX1_ticksThere_3 : decode cX1_ticksThere 3 = .ok (.invokevirtual 24, 3) := by decide +kernel
theorem dX1_ticksThere_6 : decode cX1_ticksThere 6 = .ok (.iload_n 2, 1) := by decide +kernel
theorem dX1_ticksThere_7 : decode cX1_ticksThere 7 = .ok (.aload_n 0, 1) := by decide +kernel
theorem dX1_ticksThere_8 : decode cX1_ticksThere 8 = .ok (.iload_n 1, 1) := by decide +kernel
theorem dX1_ticksThere_9 : decode cX1_ticksThere 9 = .ok (.iconst 1, 1) := by decide +kernel
theorem dX1_ticksThere_10 : decode cX1_ticksThere 10 = .ok (.invokevirtual 24, 3) := by decide +kernel
theorem dX1_ticksThere_13 : decode cX1_ticksThere 13 = .ok (.iconst 1, 1) := by decide +kernel
theorem dX1_ticksThere_14 : decode cX1_ticksThere 14 = .ok (.iadd, 1) := by decide +kernel
theorem dX1_ticksThere_15 : decode cX1_ticksThere 15 = .ok (.invokestatic 28, 3) := by decide +kernel
theorem dX1_ticksThere_18 : decode cX1_ticksThere 18 = .ok (.iadd, 1) := by decide +kernel
theorem dX1_ticksThere_19 : decode cX1_ticksThere 19 = .ok (.ireturn, 1) := by decide +kernel
set_option maxRecDepth 20000 in
theorem ggX1_ticksBack_X1_read : GoodIn wsX1_ticksBack wsX1_read := goodIn_r _ [5, 6, 10] (by decide +kernel) (by decide +kernel)
set_option maxRecDepth 20000 in
theorem gX1_ticksBack_X1_read : GoodIn wsX1_ticksBack (wsV RX1 24 RX1 yX1_read wsX1_read) := goodIn_app (goodIn_of _ (by decide +kernel)) ggX1_ticksBack_X1_read
set_option maxRecDepth 20000 in
theorem ggX1_ticksBack_X4_leftOver : GoodIn wsX1_ticksBack wsX4_leftOver := goodIn_r _ [9] (by decide +kernel) (by decide +kernel)
set_option maxRecDepth 20000 in
theorem gX1_ticksBack_X4_leftOver_n28 : GoodIn wsX1_ticksBack (wsX4_leftOver) := ggX1_ticksBack_X4_leftOver
theorem dX1_ticksBack_0 : decode cX1_ticksBack 0 = .ok (.aload_n 0, 1) := by decide +kernel
theorem dX1_ticksBack_1 : decode cX1_ticksBack 1 = .ok (.iload_n 1, 1) := by decide +kernel
theorem dX1_ticksBack_2 : decode cX1_ticksBack 2 = .ok (.iconst 2, 1) := by decide +kernel
theorem dX1_ticksBack_3 : decode cX1_ticksBack 3 = .ok (.invokevirtual 24, 3) := by decide +kernel
theorem dX1_ticksBack_6 : decode cX1_ticksBack 6 = .ok (.iload_n 2, 1) := by decide +kernel
theorem dX1_ticksBack_7 : decode cX1_ticksBack 7 = .ok (.aload_n 0, 1) := by decide +kernel
theorem dX1_ticksBack_8 : decode cX1_ticksBack 8 = .ok (.iload_n 1, 1) := by decide +kernel
theorem dX1_ticksBack_9 : decode cX1_ticksBack 9 = .ok (.iconst 3, 1) := by decide +kernel
theorem dX1_ticksBack_10 : decode cX1_ticksBack 10 = .ok (.invokevirtual 24, 3) := by decide +kernel
theorem dX1_ticksBack_13 : decode cX1_ticksBack 13 = .ok (.iconst 1, 1) := by decide +kernel
theorem dX1_ticksBack_14 : decode cX1_ticksBack 14 = .ok (.iadd, 1) := by decide +kernel
theorem dX1_ticksBack_15 : decode cX1_ticksBack 15 = .ok (.invokestatic 28, 3) := by decide +kernel
theorem dX1_ticksBack_18 : decode cX1_ticksBack 18 = .ok (.iadd, 1) := by decide +kernel
theorem dX1_ticksBack_19 : decode cX1_ticksBack 19 = .ok (.ireturn, 1) := by decide +kernel
set_option maxRecDepth 20000 in
theorem ggX1_drops_X1_read : GoodIn wsX1_drops wsX1_read := goodIn_r _ [5, 6, 7] (by decide +kernel) (by decide +kernel)
set_option maxRecDepth 20000 in
theorem gX1_drops_X1_read : GoodIn wsX1_drops (wsV RX1 24 RX1 yX1_read wsX1_read) := goodIn_app (goodIn_of _ (by decide +kernel)) ggX1_drops_X1_read
theorem dX1_drops_0 : decode cX1_drops 0 = .ok (.aload_n 0, 1) := by decide +kernel
theorem dX1_drops_1 : decode cX1_drops 1 = .ok (.iload_n 1, 1) := by decide +kernel
theorem dX1_drops_2 : decode cX1_drops 2 = .ok (.iconst 4, 1) := by decide +kernel
theorem dX1_drops_3 : decode cX1_drops 3 = .ok (.invokevirtual 24, 3) := by decide +kernel
theorem dX1_drops_6 : decode cX1_drops 6 = .ok (.istore_n 3, 1) := by decide +kernel
theorem dX1_drops_7 : decode cX1_drops 7 = .ok (.iload_n 3, 1) := by decide +kernel
theorem dX1_drops_8 : decode cX1_drops 8 = .ok (.ifCond .le 19, 3) := by decide +kernel
theorem dX1_drops_11 : decode cX1_drops 11 = .ok (.iload_n 2, 1) := by decide +kernel
theorem dX1_drops_12 : decode cX1_drops 12 = .ok (.iload_n 3, 1) := by decide +kernel
theorem dX1_drops_13 : decode cX1_drops 13 = .ok (.irem, 1) := by decide +kernel
theorem dX1_drops_14 : decode cX1_drops 14 = .ok (.aload_n 0, 1) := by decide +kernel
theorem dX1_drops_15 : decode cX1_drops 15 = .ok (.iload_n 1, 1) := by decide +kernel
theorem dX1_drops_16 : decode cX1_drops 16 = .ok (.iconst 5, 1) := by decide +kernel
theorem dX1_drops_17 : decode cX1_drops 17 = .ok (.invokevirtual 24, 3) := by decide +kernel
theorem dX1_drops_20 : decode cX1_drops 20 = .ok (.if_icmp .ne 7, 3) := by decide +kernel
theorem dX1_drops_23 : decode cX1_drops 23 = .ok (.iconst 1, 1) := by decide +kernel
theorem dX1_drops_24 : decode cX1_drops 24 = .ok (.goto 4, 3) := by decide +kernel
theorem dX1_drops_27 : decode cX1_drops 27 = .ok (.iconst 0, 1) := by decide +kernel
theorem dX1_drops_28 : decode cX1_drops 28 = .ok (.ireturn, 1) := by decide +kernel
theorem dX2_init_0 : decode cX2_init 0 = .ok (.aload_n 0, 1) := by decide +kernel
theorem dX2_init_1 : decode cX2_init 1 = .ok (.invokespecial 3, 3) := by decide +kernel
theorem dX2_init_4 : decode cX2_init 4 = .ok (.aload_n 0, 1) := by decide +kernel
theorem dX2_init_5 : decode cX2_init 5 = .ok (.sipush 1000, 3) := by decide +kernel
theorem dX2_init_8 : decode cX2_init 8 = .ok (.newarray .int, 2) := by decide +kernel
theorem dX2_init_10 : decode cX2_init 10 = .ok (.putfield 9, 3) := by decide +kernel
theorem dX2_init_13 : decode cX2_init 13 = .ok (.aload_n 0, 1) := by decide +kernel
theorem dX2_init_14 : decode cX2_init 14 = .ok (.sipush 1000, 3) := by decide +kernel
theorem dX2_init_17 : decode cX2_init 17 = .ok (.newarray .int, 2) := by decide +kernel
theorem dX2_init_19 : decode cX2_init 19 = .ok (.putfield 15, 3) := by decide +kernel
theorem dX2_init_22 : decode cX2_init 22 = .ok (.return_, 1) := by decide +kernel
set_option maxRecDepth 20000 in
theorem ggX2_begin_J7_fill_53178 : GoodIn wsX2_begin wsJ7_fill_53178 := goodIn_r _ [6] (by decide +kernel) (by decide +kernel)
set_option maxRecDepth 20000 in
theorem gX2_begin_J7_fill_53178 : GoodIn wsX2_begin (va_wsS RX2 18 yJ7_fill_53178 wsJ7_fill_53178) := goodIn_app (goodIn_of _ (by decide +kernel)) ggX2_begin_J7_fill_53178
theorem dX2_begin_0 : decode cX2_begin 0 = .ok (.aload_n 0, 1) := by decide +kernel
theorem dX2_begin_1 : decode cX2_begin 1 = .ok (.getfield 9, 3) := by decide +kernel
theorem dX2_begin_4 : decode cX2_begin 4 = .ok (.iconst 0, 1) := by decide +kernel
theorem dX2_begin_5 : decode cX2_begin 5 = .ok (.invokestatic 18, 3) := by decide +kernel
theorem dX2_begin_8 : decode cX2_begin 8 = .ok (.aload_n 0, 1) := by decide +kernel
theorem dX2_begin_9 : decode cX2_begin 9 = .ok (.getfield 15, 3) := by decide +kernel
theorem dX2_begin_12 : decode cX2_begin 12 = .ok (.iconst 0, 1) := by decide +kernel
theorem dX2_begin_13 : decode cX2_begin 13 = .ok (.invokestatic 18, 3) := by decide +kernel
theorem dX2_begin_16 : decode cX2_begin 16 = .ok (.return_, 1) := by decide +kernel
theorem dX2_copyFrom_0 : decode cX2_copyFrom 0 = .ok (.aload_n 1, 1) := by decide +kernel
theorem dX2_copyFrom_1 : decode cX2_copyFrom 1 = .ok (.getfield 9, 3) := by decide +kernel
theorem dX2_copyFrom_4 : decode cX2_copyFrom 4 = .ok (.iconst 0, 1) := by decide +kernel
theorem dX2_copyFrom_5 : decode cX2_copyFrom 5 = .ok (.aload_n 0, 1) := by decide +kernel
theorem dX2_copyFrom_6 : decode cX2_copyFrom 6 = .ok (.getfield 9, 3) := by decide +kernel
theorem dX2_copyFrom_9 : decode cX2_copyFrom 9 = .ok (.iconst 0, 1) := by decide +kernel
theorem dX2_copyFrom_10 : decode cX2_copyFrom 10 = .ok (.aload_n 0, 1) := by decide +kernel
theorem dX2_copyFrom_11 : decode cX2_copyFrom 11 = .ok (.getfield 9, 3) := by decide +kernel
theorem dX2_copyFrom_14 : decode cX2_copyFrom 14 = .ok (.arraylength, 1) := by decide +kernel
theorem dX2_copyFrom_15 : decode cX2_copyFrom 15 = .ok (.invokestatic 24, 3) := by decide +kernel
theorem dX2_copyFrom_18 : decode cX2_copyFrom 18 = .ok (.aload_n 1, 1) := by decide +kernel
theorem dX2_copyFrom_19 : decode cX2_copyFrom 19 = .ok (.getfield 15, 3) := by decide +kernel
theorem dX2_copyFrom_22 : decode cX2_copyFrom 22 = .ok (.iconst 0, 1) := by decide +kernel
theorem dX2_copyFrom_23 : decode cX2_copyFrom 23 = .ok (.aload_n 0, 1) := by decide +kernel
theorem dX2_copyFrom_24 : decode cX2_copyFrom 24 = .ok (.getfield 15, 3) := by decide +kernel
theorem dX2_copyFrom_27 : decode cX2_copyFrom 27 = .ok (.iconst 0, 1) := by decide +kernel
theorem dX2_copyFrom_28 : decode cX2_copyFrom 28 = .ok (.aload_n 0, 1) := by decide +kernel
theorem dX2_copyFrom_29 : decode cX2_copyFrom 29 = .ok (.getfield 15, 3) := by decide +kernel
theorem dX2_copyFrom_32 : decode cX2_copyFrom 32 = .ok (.arraylength, 1) := by decide +kernel
theorem dX2_copyFrom_33 : decode cX2_copyFrom 33 = .ok (.invokestatic 24, 3) := by decide +kernel
theorem dX2_copyFrom_36 : decode cX2_copyFrom 36 = .ok (.return_, 1) := by decide +kernel
theorem dX2_cell_0 : decode cX2_cell 0 = .ok (.iload_n 0, 1) := by decide +kernel
theorem dX2_cell_1 : decode cX2_cell 1 = .ok (.sipush 200, 3) := by decide +kernel
theorem dX2_cell_4 : decode cX2_cell 4 = .ok (.imul, 1) := by decide +kernel
theorem dX2_cell_5 : decode cX2_cell 5 = .ok (.iload_n 1, 1) := by decide +kernel
theorem dX2_cell_6 : decode cX2_cell 6 = .ok (.iadd, 1) := by decide +kernel
theorem dX2_cell_7 : decode cX2_cell 7 = .ok (.ireturn, 1) := by decide +kernel
set_option maxRecDepth 20000 in
theorem ggX2_add_X2_cell : GoodIn wsX2_add wsX2_cell := goodIn_r _ [6] (by decide +kernel) (by decide +kernel)
set_option maxRecDepth 20000 in
theorem gX2_add_X2_cell : GoodIn wsX2_add (va_wsS RX2 30 yX2_cell wsX2_cell) := goodIn_app (goodIn_of _ (by decide +kernel)) ggX2_add_X2_cell
theorem dX2_add_0 : decode cX2_add 0 = .ok (.aload_n 0, 1) := by decide +kernel
theorem dX2_add_1 : decode cX2_add 1 = .ok (.getfield 9, 3) := by decide +kernel
theorem dX2_add_4 : decode cX2_add 4 = .ok (.iload_n 1, 1) := by decide +kernel
theorem dX2_add_5 : decode cX2_add 5 = .ok (.iload_n 2, 1) := by decide +kernel
theorem dX2_add_6 : decode cX2_add 6 = .ok (.invokestatic 30, 3) := by decide +kernel
theorem dX2_add_9 : decode cX2_add 9 = .ok (.dup2, 1) := by decide +kernel
theorem dX2_add_10 : decode cX2_add 10 = .ok (.iaload, 1) := by decide +kernel
theorem dX2_add_11 : decode cX2_add 11 = .ok (.iconst 1, 1) := by decide +kernel
theorem dX2_add_12 : decode cX2_add 12 = .ok (.iadd, 1) := by decide +kernel
theorem dX2_add_13 : decode cX2_add 13 = .ok (.iastore, 1) := by decide +kernel
theorem dX2_add_14 : decode cX2_add 14 = .ok (.aload_n 0, 1) := by decide +kernel
theorem dX2_add_15 : decode cX2_add 15 = .ok (.getfield 15, 3) := by decide +kernel
theorem dX2_add_18 : decode cX2_add 18 = .ok (.iload_n 1, 1) := by decide +kernel
theorem dX2_add_19 : decode cX2_add 19 = .ok (.iload_n 2, 1) := by decide +kernel
theorem dX2_add_20 : decode cX2_add 20 = .ok (.invokestatic 30, 3) := by decide +kernel
theorem dX2_add_23 : decode cX2_add 23 = .ok (.dup2, 1) := by decide +kernel
theorem dX2_add_24 : decode cX2_add 24 = .ok (.iaload, 1) := by decide +kernel
theorem dX2_add_25 : decode cX2_add 25 = .ok (.iload_n 3, 1) := by decide +kernel
theorem dX2_add_26 : decode cX2_add 26 = .ok (.iadd, 1) := by decide +kernel
theorem dX2_add_27 : decode cX2_add 27 = .ok (.iastore, 1) := by decide +kernel
theorem dX2_add_28 : decode cX2_add 28 = .ok (.return_, 1) := by decide +kernel
set_option maxRecDepth 20000 in
theorem ggX2_countOf_X2_cell : GoodIn wsX2_countOf wsX2_cell := goodIn_r _ [5] (by decide +kernel) (by decide +kernel)
set_option maxRecDepth 20000 in
theorem gX2_countOf_X2_cell : GoodIn wsX2_countOf (va_wsS RX2 30 yX2_cell wsX2_cell) := goodIn_app (goodIn_of _ (by decide +kernel)) ggX2_countOf_X2_cell
theorem dX2_countOf_0 : decode cX2_countOf 0 = .ok (.aload_n 0, 1) := by decide +kernel
theorem dX2_countOf_1 : decode cX2_countOf 1 = .ok (.getfield 9, 3) := by decide +kernel
theorem dX2_countOf_4 : decode cX2_countOf 4 = .ok (.iload_n 1, 1) := by decide +kernel
theorem dX2_countOf_5 : decode cX2_countOf 5 = .ok (.iload_n 2, 1) := by decide +kernel
theorem dX2_countOf_6 : decode cX2_countOf 6 = .ok (.invokestatic 30, 3) := by decide +kernel
theorem dX2_countOf_9 : decode cX2_countOf 9 = .ok (.iaload, 1) := by decide +kernel
theorem dX2_countOf_10 : decode cX2_countOf 10 = .ok (.ireturn, 1) := by decide +kernel
set_option maxRecDepth 20000 in
theorem ggX2_sumOf_X2_cell : GoodIn wsX2_sumOf wsX2_cell := goodIn_r _ [5] (by decide +kernel) (by decide +kernel)
set_option maxRecDepth 20000 in
theorem gX2_sumOf_X2_cell : GoodIn wsX2_sumOf (va_wsS RX2 30 yX2_cell wsX2_cell) := goodIn_app (goodIn_of _ (by decide +kernel)) ggX2_sumOf_X2_cell
theorem dX2_sumOf_0 : decode cX2_sumOf 0 = .ok (.aload_n 0, 1) := by decide +kernel
theorem dX2_sumOf_1 : decode cX2_sumOf 1 = .ok (.getfield 15, 3) := by decide +kernel
theorem dX2_sumOf_4 : decode cX2_sumOf 4 = .ok (.iload_n 1, 1) := by decide +kernel
theorem dX2_sumOf_5 : decode cX2_sumOf 5 = .ok (.iload_n 2, 1) := by decide +kernel
theorem dX2_sumOf_6 : decode cX2_sumOf 6 = .ok (.invokestatic 30, 3) := by decide +kernel
theorem dX2_sumOf_9 : decode cX2_sumOf 9 = .ok (.iaload, 1) := by decide +kernel
theorem dX2_sumOf_10 : decode cX2_sumOf 10 = .ok (.ireturn, 1) := by decide +kernel
set_option maxRecDepth 20000 in
theorem ggX2_lostBetween_X2_countOf : GoodIn wsX2_lostBetween wsX2_countOf := goodIn_r _ [5, 6, 7, 8, 4, 9, 10, 11] (by decide +kernel) (by decide +kernel)
set_option maxRecDepth 20000 in
theorem gX2_lostBetween_X2_countOf : GoodIn wsX2_lostBetween (wsV RX2 34 RX2 yX2_countOf wsX2_countOf) := goodIn_app (goodIn_of _ (by decide +kernel)) ggX2_lostBetween_X2_countOf
theorem dX2_lostBetween_0 : decode cX2_lostBetween 0 = .ok (.aload_n 0, 1) := by decide +kernel
theorem dX2_lostBetween_1 : decode cX2_lostBetween 1 = .ok (.iload_n 1, 1) := by decide +kernel
theorem dX2_lostBetween_2 : decode cX2_lostBetween 2 = .ok (.iload_n 3, 1) := by decide +kernel
theorem dX2_lostBetween_3 : decode cX2_lostBetween 3 = .ok (.invokevirtual 34, 3) := by decide +kernel
theorem dX2_lostBetween_6 : decode cX2_lostBetween 6 = .ok (.aload_n 0, 1) := by decide +kernel
theorem dX2_lostBetween_7 : decode cX2_lostBetween 7 = .ok (.iload_n 2, 1) := by decide +kernel
theorem dX2_lostBetween_8 : decode cX2_lostBetween 8 = .ok (.iload_n 3, 1) := by decide +kernel
theorem dX2_lostBetween_9 : decode cX2_lostBetween 9 = .ok (.invokevirtual 34, 3) := by decide +kernel
theorem dX2_lostBetween_12 : decode cX2_lostBetween 12 = .ok (.isub, 1) := by decide +kernel
theorem dX2_lostBetween_13 : decode cX2_lostBetween 13 = .ok (.ireturn, 1) := by decide +kernel
set_option maxRecDepth 20000 in
theorem ggX2_lostOfAll_X2_lostBetween : GoodIn wsX2_lostOfAll wsX2_lostBetween := goodIn_r _ [5, 6, 7, 8, 4, 9, 10, 11, 12, 13, 14, 15] (by decide +kernel) (by decide +kernel)
set_option maxRecDepth 20000 in
theorem gX2_lostOfAll_X2_lostBetween : GoodIn wsX2_lostOfAll (wsV RX2 37 RX2 yX2_lostBetween wsX2_lostBetween) := goodIn_app (goodIn_of _ (by decide +kernel)) ggX2_lostOfAll_X2_lostBetween
theorem dX2_lostOfAll_0 : decode cX2_lostOfAll 0 = .ok (.iconst 0, 1) := by decide +kernel
theorem dX2_lostOfAll_1 : decode cX2_lostOfAll 1 = .ok (.istore_n 2, 1) := by decide +kernel
theorem dX2_lostOfAll_2 : decode cX2_lostOfAll 2 = .ok (.iconst 0, 1) := by decide +kernel
theorem dX2_lostOfAll_3 : decode cX2_lostOfAll 3 = .ok (.istore_n 3, 1) := by decide +kernel
theorem dX2_lostOfAll_4 : decode cX2_lostOfAll 4 = .ok (.iload_n 3, 1) := by decide +kernel
theorem dX2_lostOfAll_5 : decode cX2_lostOfAll 5 = .ok (.sipush 200, 3) := by decide +kernel
theorem dX2_lostOfAll_8 : decode cX2_lostOfAll 8 = .ok (.if_icmp .ge 21, 3) := by decide +kernel
theorem dX2_lostOfAll_11 : decode cX2_lostOfAll 11 = .ok (.iload_n 2, 1) := by decide +kernel
theorem dX2_lostOfAll_12 : decode cX2_lostOfAll 12 = .ok (.aload_n 0, 1) := by decide +kernel
theorem dX2_lostOfAll_13 : decode cX2_lostOfAll 13 = .ok (.iload_n 1, 1) := by decide +kernel
theorem dX2_lostOfAll_14 : decode cX2_lostOfAll 14 = .ok (.iload_n 1, 1) := by decide +kernel
theorem dX2_lostOfAll_15 : decode cX2_lostOfAll 15 = .ok (.iconst 1, 1) := by decide +kernel
theorem dX2_lostOfAll_16 : decode cX2_lostOfAll 16 = .ok (.iadd, 1) := by decide +kernel
theorem dX2_lostOfAll_17 : decode cX2_lostOfAll 17 = .ok (.iload_n 3, 1) := by decide +kernel
theorem dX2_lostOfAll_18 : decode cX2_lostOfAll 18 = .ok (.invokevirtual 37, 3) := by decide +kernel
theorem dX2_lostOfAll_21 : decode cX2_lostOfAll 21 = .ok (.iadd, 1) := by decide +kernel
theorem dX2_lostOfAll_22 : decode cX2_lostOfAll 22 = .ok (.istore_n 2, 1) := by decide +kernel
theorem dX2_lostOfAll_23 : decode cX2_lostOfAll 23 = .ok (.iinc 3 1, 3) := by decide +kernel
theorem dX2_lostOfAll_26 : decode cX2_lostOfAll 26 = .ok (.goto (-22), 3) := by decide +kernel
theorem dX2_lostOfAll_29 : decode cX2_lostOfAll 29 = .ok (.iload_n 2, 1) := by decide +kernel
theorem dX2_lostOfAll_30 : decode cX2_lostOfAll 30 = .ok (.ireturn, 1) := by decide +kernel
set_option maxRecDepth 20000 in
theorem ggX2_hasTook_X2_countOf : GoodIn wsX2_hasTook wsX2_countOf := goodIn_r _ [5, 6, 7, 8, 4, 9, 10, 11] (by decide +kernel) (by decide +kernel)
set_option maxRecDepth 20000 in
theorem gX2_hasTook_X2_countOf : GoodIn wsX2_hasTook (wsV RX2 34 RX2 yX2_countOf wsX2_countOf) := goodIn_app (goodIn_of _ (by decide +kernel)) ggX2_hasTook_X2_countOf
theorem dX2_hasTook_0 : decode cX2_hasTook 0 = .ok (.aload_n 0, 1) := by decide +kernel
theorem dX2_hasTook_1 : decode cX2_hasTook 1 = .ok (.iload_n 1, 1) := by decide +kernel
theorem dX2_hasTook_2 : decode cX2_hasTook 2 = .ok (.iload_n 3, 1) := by decide +kernel
theorem dX2_hasTook_3 : decode cX2_hasTook 3 = .ok (.invokevirtual 34, 3) := by decide +kernel
theorem dX2_hasTook_6 : decode cX2_hasTook 6 = .ok (.ifCond .le 22, 3) := by decide +kernel
theorem dX2_hasTook_9 : decode cX2_hasTook 9 = .ok (.aload_n 0, 1) := by decide +kernel
theorem dX2_hasTook_10 : decode cX2_hasTook 10 = .ok (.iload_n 1, 1) := by decide +kernel
theorem dX2_hasTook_11 : decode cX2_hasTook 11 = .ok (.iload_n 3, 1) := by decide +kernel
theorem dX2_hasTook_12 : decode cX2_hasTook 12 = .ok (.invokevirtual 34, 3) := by decide +kernel
theorem dX2_hasTook_15 : decode cX2_hasTook 15 = .ok (.aload_n 0, 1) := by decide +kernel
theorem dX2_hasTook_16 : decode cX2_hasTook 16 = .ok (.iload_n 2, 1) := by decide +kernel
theorem dX2_hasTook_17 : decode cX2_hasTook 17 = .ok (.iload_n 3, 1) := by decide +kernel
theorem dX2_hasTook_18 : decode cX2_hasTook 18 = .ok (.invokevirtual 34, 3) := by decide +kernel
theorem dX2_hasTook_21 : decode cX2_hasTook 21 = .ok (.if_icmp .ne 7, 3) := by decide +kernel
theorem dX2_hasTook_24 : decode cX2_hasTook 24 = .ok (.iconst 1, 1) := by decide +kernel
theorem dX2_hasTook_25 : decode cX2_hasTook 25 = .ok (.goto 4, 3) := by decide +kernel
theorem dX2_hasTook_28 : decode cX2_hasTook 28 = .ok (.iconst 0, 1) := by decide +kernel
theorem dX2_hasTook_29 : decode cX2_hasTook 29 = .ok (.ireturn, 1) := by decide +kernel
set_option maxRecDepth 20000 in
theorem ggX2_tookUpper_X2_sumOf : GoodIn wsX2_tookUpper wsX2_sumOf := goodIn_r _ [5, 6, 7, 8, 4, 9, 10, 11] (by decide +kernel) (by decide +kernel)
set_option maxRecDepth 20000 in
theorem gX2_tookUpper_X2_sumOf : GoodIn wsX2_tookUpper (wsV RX2 41 RX2 yX2_sumOf wsX2_sumOf) := goodIn_app (goodIn_of _ (by decide +kernel)) ggX2_tookUpper_X2_sumOf
theorem dX2_tookUpper_0 : decode cX2_tookUpper 0 = .ok (.aload_n 0, 1) := by decide +kernel
theorem dX2_tookUpper_1 : decode cX2_tookUpper 1 = .ok (.iload_n 2, 1) := by decide +kernel
theorem dX2_tookUpper_2 : decode cX2_tookUpper 2 = .ok (.iload_n 3, 1) := by decide +kernel
theorem dX2_tookUpper_3 : decode cX2_tookUpper 3 = .ok (.invokevirtual 41, 3) := by decide +kernel
theorem dX2_tookUpper_6 : decode cX2_tookUpper 6 = .ok (.aload_n 0, 1) := by decide +kernel
theorem dX2_tookUpper_7 : decode cX2_tookUpper 7 = .ok (.iload_n 1, 1) := by decide +kernel
theorem dX2_tookUpper_8 : decode cX2_tookUpper 8 = .ok (.iload_n 3, 1) := by decide +kernel
theorem dX2_tookUpper_9 : decode cX2_tookUpper 9 = .ok (.invokevirtual 41, 3) := by decide +kernel
theorem dX2_tookUpper_12 : decode cX2_tookUpper 12 = .ok (.isub, 1) := by decide +kernel
theorem dX2_tookUpper_13 : decode cX2_tookUpper 13 = .ok (.ireturn, 1) := by decide +kernel
set_option maxRecDepth 20000 in
theorem ggX2_blocksSent_X2_countOf : GoodIn wsX2_blocksSent wsX2_countOf := goodIn_r _ [5, 6, 7, 8, 4, 9, 10, 11] (by decide +kernel) (by decide +kernel)
set_option maxRecDepth 20000 in
theorem gX2_blocksSent_X2_countOf : GoodIn wsX2_blocksSent (wsV RX2 34 RX2 yX2_countOf wsX2_countOf) := goodIn_app (goodIn_of _ (by decide +kernel)) ggX2_blocksSent_X2_countOf
theorem dX2_blocksSent_0 : decode cX2_blocksSent 0 = .ok (.iconst 0, 1) := by decide +kernel
theorem dX2_blocksSent_1 : decode cX2_blocksSent 1 = .ok (.istore_n 1, 1) := by decide +kernel
theorem dX2_blocksSent_2 : decode cX2_blocksSent 2 = .ok (.iconst 0, 1) := by decide +kernel
theorem dX2_blocksSent_3 : decode cX2_blocksSent 3 = .ok (.istore_n 2, 1) := by decide +kernel
theorem dX2_blocksSent_4 : decode cX2_blocksSent 4 = .ok (.iload_n 2, 1) := by decide +kernel
theorem dX2_blocksSent_5 : decode cX2_blocksSent 5 = .ok (.sipush 200, 3) := by decide +kernel
theorem dX2_blocksSent_8 : decode cX2_blocksSent 8 = .ok (.if_icmp .ge 21, 3) := by decide +kernel
theorem dX2_blocksSent_11 : decode cX2_blocksSent 11 = .ok (.aload_n 0, 1) := by decide +kernel
theorem dX2_blocksSent_12 : decode cX2_blocksSent 12 = .ok (.iconst 0, 1) := by decide +kernel
theorem dX2_blocksSent_13 : decode cX2_blocksSent 13 = .ok (.iload_n 2, 1) := by decide +kernel
theorem dX2_blocksSent_14 : decode cX2_blocksSent 14 = .ok (.invokevirtual 34, 3) := by decide +kernel
theorem dX2_blocksSent_17 : decode cX2_blocksSent 17 = .ok (.ifCond .le 6, 3) := by decide +kernel
theorem dX2_blocksSent_20 : decode cX2_blocksSent 20 = .ok (.iinc 1 1, 3) := by decide +kernel
theorem dX2_blocksSent_23 : decode cX2_blocksSent 23 = .ok (.iinc 2 1, 3) := by decide +kernel
theorem dX2_blocksSent_26 : decode cX2_blocksSent 26 = .ok (.goto (-22), 3) := by decide +kernel
theorem dX2_blocksSent_29 : decode cX2_blocksSent 29 = .ok (.iload_n 1, 1) := by decide +kernel
theorem dX2_blocksSent_30 : decode cX2_blocksSent 30 = .ok (.ireturn, 1) := by decide +kernel
set_option maxRecDepth 20000 in
theorem ggX3_init_X1_init : GoodIn wsX3_init wsX1_init := goodIn_r _ [23, 24, 2, 3, 8, 25, 44] (by decide +kernel) (by decide +kernel)
set_option maxRecDepth 20000 in
theorem gX3_init_X1_init_n30 : GoodIn wsX3_init (wsX1_init) := ggX3_init_X1_init
set_option maxRecDepth 20000 in
theorem ggX3_init_X2_init : GoodIn wsX3_init wsX2_init := goodIn_r _ [27, 28, 2, 3, 8, 29, 30, 45, 46] (by decide +kernel) (by decide +kernel)
set_option maxRecDepth 20000 in
theorem gX3_init_X2_init_n37 : GoodIn wsX3_init (wsX2_init) := ggX3_init_X2_init
set_option maxRecDepth 20000 in
theorem ggX3_init_X0_init : GoodIn wsX3_init wsX0_init := goodIn_r _ [32, 33, 2, 3, 8, 34, 35, 47, 48] (by decide +kernel) (by decide +kernel)
set_option maxRecDepth 20000 in
theorem gX3_init_X0_init_n44 : GoodIn wsX3_init (wsX0_init) := ggX3_init_X0_init
theorem dX3_init_0 : decode cX3_init 0 = .ok (.aload_n 0, 1) := by decide +kernel
theorem dX3_init_1 : decode cX3_init 1 = .ok (.invokespecial 3, 3) := by decide +kernel
theorem dX3_init_4 : decode cX3_init 4 = .ok (.aload_n 0, 1) := by decide +kernel
theorem dX3_init_5 : decode cX3_init 5 = .ok (.iconst 3, 1) := by decide +kernel
theorem dX3_init_6 : decode cX3_init 6 = .ok (.putfield 9, 3) := by decide +kernel
theorem dX3_init_9 : decode cX3_init 9 = .ok (.aload_n 0, 1) := by decide +kernel
theorem dX3_init_10 : decode cX3_init 10 = .ok (.iconst 0, 1) := by decide +kernel
theorem dX3_init_11 : decode cX3_init 11 = .ok (.putfield 15, 3) := by decide +kernel
theorem dX3_init_14 : decode cX3_init 14 = .ok (.aload_n 0, 1) := by decide +kernel
theorem dX3_init_15 : decode cX3_init 15 = .ok (.iconst 0, 1) := by decide +kernel
theorem dX3_init_16 : decode cX3_init 16 = .ok (.putfield 18, 3) := by decide +kernel
theorem dX3_init_19 : decode cX3_init 19 = .ok (.aload_n 0, 1) := by decide +kernel
theorem dX3_init_20 : decode cX3_init 20 = .ok (.iconst 5, 1) := by decide +kernel
theorem dX3_init_21 : decode cX3_init 21 = .ok (.putfield 21, 3) := by decide +kernel
theorem dX3_init_24 : decode cX3_init 24 = .ok (.aload_n 0, 1) := by decide +kernel
theorem dX3_init_25 : decode cX3_init 25 = .ok (.iconst 5, 1) := by decide +kernel
theorem dX3_init_26 : decode cX3_init 26 = .ok (.newarray .int, 2) := by decide +kernel
theorem dX3_init_28 : decode cX3_init 28 = .ok (.putfield 24, 3) := by decide +kernel
theorem dX3_init_31 : decode cX3_init 31 = .ok (.aload_n 0, 1) := by decide +kernel
theorem dX3_init_32 : decode cX3_init 32 = .ok (.new 28, 3) := by decide +kernel
theorem dX3_init_35 : decode cX3_init 35 = .ok (.dup, 1) := by decide +kernel
theorem dX3_init_36 : decode cX3_init 36 = .ok (.invokespecial 30, 3) := by decide +kernel
theorem dX3_init_39 : decode cX3_init 39 = .ok (.putfield 31, 3) := by decide +kernel
theorem dX3_init_42 : decode cX3_init 42 = .ok (.aload_n 0, 1) := by decide +kernel
theorem dX3_init_43 : decode cX3_init 43 = .ok (.new 35, 3) := by decide +kernel
theorem dX3_init_46 : decode cX3_init 46 = .ok (.dup, 1) := by decide +kernel
theorem dX3_init_47 : decode cX3_init 47 = .ok (.invokespecial 37, 3) := by decide +kernel
theorem dX3_init_50 : decode cX3_init 50 = .ok (.putfield 38, 3) := by decide +kernel
theorem dX3_init_53 : decode cX3_init 53 = .ok (.aload_n 0, 1) := by decide +kernel
theorem dX3_init_54 : decode cX3_init 54 = .ok (.new 42, 3) := by decide +kernel
theorem dX3_init_57 : decode cX3_init 57 = .ok (.dup, 1) := by decide +kernel
theorem dX3_init_58 : decode cX3_init 58 = .ok (.invokespecial 44, 3) := by decide +kernel
theorem dX3_init_61 : decode cX3_init 61 = .ok (.putfield 45, 3) := by decide +kernel
theorem dX3_init_64 : decode cX3_init 64 = .ok (.return_, 1) := by decide +kernel
set_option maxRecDepth 20000 in
theorem ggX3_begin_J7_fill_53178 : GoodIn wsX3_begin wsJ7_fill_53178 := goodIn_r _ [12] (by decide +kernel) (by decide +kernel)
set_option maxRecDepth 20000 in
theorem gX3_begin_J7_fill_53178 : GoodIn wsX3_begin (va_wsS RX3 49 yJ7_fill_53178 wsJ7_fill_53178) := goodIn_app (goodIn_of _ (by decide +kernel)) ggX3_begin_J7_fill_53178
set_option maxRecDepth 20000 in
theorem ggX3_begin_X1_begin : GoodIn wsX3_begin wsX1_begin := goodIn_r _ [17, 18, 19, 20, 21, 22, 47] (by decide +kernel) (by decide +kernel)
set_option maxRecDepth 20000 in
theorem gX3_begin_X1_begin : GoodIn wsX3_begin (wsV RX3 55 RX1 yX1_begin wsX1_begin) := goodIn_app (goodIn_of _ (by decide +kernel)) ggX3_begin_X1_begin
set_option maxRecDepth 20000 in
theorem ggX3_begin_X2_begin : GoodIn wsX3_begin wsX2_begin := goodIn_r _ [27, 28, 29, 30, 10, 11, 12, 48, 49] (by decide +kernel) (by decide +kernel)
set_option maxRecDepth 20000 in
theorem gX3_begin_X2_begin : GoodIn wsX3_begin (wsV RX3 58 RX2 yX2_begin wsX2_begin) := goodIn_app (goodIn_of _ (by decide +kernel)) ggX3_begin_X2_begin
set_option maxRecDepth 20000 in
theorem ggX3_begin_X0_begin : GoodIn wsX3_begin wsX0_begin := goodIn_r _ [35, 36, 37, 38, 10, 11, 12, 50, 51] (by decide +kernel) (by decide +kernel)
set_option maxRecDepth 20000 in
theorem gX3_begin_X0_begin : GoodIn wsX3_begin (wsV RX3 59 RX0 yX0_begin wsX0_begin) := goodIn_app (goodIn_of _ (by decide +kernel)) ggX3_begin_X0_begin
theorem dX3_begin_0 : decode cX3_begin 0 = .ok (.aload_n 0, 1) := by decide +kernel
theorem dX3_begin_1 : decode cX3_begin 1 = .ok (.iload_n 1, 1) := by decide +kernel
theorem dX3_begin_2 : decode cX3_begin 2 = .ok (.putfield 9, 3) := by decide +kernel
theorem dX3_begin_5 : decode cX3_begin 5 = .ok (.aload_n 0, 1) := by decide +kernel
theorem dX3_begin_6 : decode cX3_begin 6 = .ok (.iconst 0, 1) := by decide +kernel
theorem dX3_begin_7 : decode cX3_begin 7 = .ok (.putfield 15, 3) := by decide +kernel
theorem dX3_begin_10 : decode cX3_begin 10 = .ok (.aload_n 0, 1) := by decide +kernel
theorem dX3_begin_11 : decode cX3_begin 11 = .ok (.iconst 0, 1) := by decide +kernel
theorem dX3_begin_12 : decode cX3_begin 12 = .ok (.putfield 18, 3) := by decide +kernel
theorem dX3_begin_15 : decode cX3_begin 15 = .ok (.aload_n 0, 1) := by decide +kernel
theorem dX3_begin_16 : decode cX3_begin 16 = .ok (.iconst 5, 1) := by decide +kernel
theorem dX3_begin_17 : decode cX3_begin 17 = .ok (.putfield 21, 3) := by decide +kernel
theorem dX3_begin_20 : decode cX3_begin 20 = .ok (.aload_n 0, 1) := by decide +kernel
theorem dX3_begin_21 : decode cX3_begin 21 = .ok (.getfield 24, 3) := by decide +kernel
theorem dX3_begin_24 : decode cX3_begin 24 = .ok (.iconst 0, 1) := by decide +kernel
theorem dX3_begin_25 : decode cX3_begin 25 = .ok (.invokestatic 49, 3) := by decide +kernel
theorem dX3_begin_28 : decode cX3_begin 28 = .ok (.aload_n 0, 1) := by decide +kernel
theorem dX3_begin_29 : decode cX3_begin 29 = .ok (.getfield 31, 3) := by decide +kernel
theorem dX3_begin_32 : decode cX3_begin 32 = .ok (.invokevirtual 55, 3) := by decide +kernel
theorem dX3_begin_35 : decode cX3_begin 35 = .ok (.aload_n 0, 1) := by decide +kernel
theorem dX3_begin_36 : decode cX3_begin 36 = .ok (.getfield 38, 3) := by decide +kernel
theorem dX3_begin_39 : decode cX3_begin 39 = .ok (.invokevirtual 58, 3) := by decide +kernel
theorem dX3_begin_42 : decode cX3_begin 42 = .ok (.aload_n 0, 1) := by decide +kernel
theorem dX3_begin_43 : decode cX3_begin 43 = .ok (.getfield 45, 3) := by decide +kernel
theorem dX3_begin_46 : decode cX3_begin 46 = .ok (.invokevirtual 59, 3) := by decide +kernel
theorem dX3_begin_49 : decode cX3_begin 49 = .ok (.return_, 1) := by decide +kernel
set_option maxRecDepth 20000 in
theorem ggX3_copyFrom_X1_copyFrom : GoodIn wsX3_copyFrom wsX1_copyFrom := goodIn_r _ [17, 18, 19, 7, 8, 9, 43] (by decide +kernel) (by decide +kernel)
set_option maxRecDepth 20000 in
theorem gX3_copyFrom_X1_copyFrom : GoodIn wsX3_copyFrom (wsV RX3 66 RX1 yX1_copyFrom wsX1_copyFrom) := goodIn_app (goodIn_of _ (by decide +kernel)) ggX3_copyFrom_X1_copyFrom
set_option maxRecDepth 20000 in
theorem ggX3_copyFrom_X2_copyFrom : GoodIn wsX3_copyFrom wsX2_copyFrom := goodIn_r _ [24, 25, 26, 7, 8, 9, 27, 44, 45] (by decide +kernel) (by decide +kernel)
set_option maxRecDepth 20000 in
theorem gX3_copyFrom_X2_copyFrom : GoodIn wsX3_copyFrom (wsV RX3 70 RX2 yX2_copyFrom wsX2_copyFrom) := goodIn_app (goodIn_of _ (by decide +kernel)) ggX3_copyFrom_X2_copyFrom
set_option maxRecDepth 20000 in
theorem ggX3_copyFrom_X0_copyFrom : GoodIn wsX3_copyFrom wsX0_copyFrom := goodIn_r _ [32, 33, 34, 7, 8, 9, 46, 47] (by decide +kernel) (by decide +kernel)
set_option maxRecDepth 20000 in
theorem gX3_copyFrom_X0_copyFrom : GoodIn wsX3_copyFrom (wsV RX3 73 RX0 yX0_copyFrom wsX0_copyFrom) := goodIn_app (goodIn_of _ (by decide +kernel)) ggX3_copyFrom_X0_copyFrom
theorem dX3_copyFrom_0 : decode cX3_copyFrom 0 = .ok (.aload_n 0, 1) := by decide +kernel
theorem dX3_copyFrom_1 : decode cX3_copyFrom 1 = .ok (.aload_n 1, 1) := by decide +kernel
theorem dX3_copyFrom_2 : decode cX3_copyFrom 2 = .ok (.getfield 9, 3) := by decide +kernel
theorem dX3_copyFrom_5 : decode cX3_copyFrom 5 = .ok (.putfield 9, 3) := by decide +kernel
theorem dX3_copyFrom_8 : decode cX3_copyFrom 8 = .ok (.aload_n 0, 1) := by decide +kernel
theorem dX3_copyFrom_9 : decode cX3_copyFrom 9 = .ok (.aload_n 1, 1) := by decide +kernel
theorem dX3_copyFrom_10 : decode cX3_copyFrom 10 = .ok (.getfield 15, 3) := by decide +kernel
theorem dX3_copyFrom_13 : decode cX3_copyFrom 13 = .ok (.putfield 15, 3) := by decide +kernel
theorem dX3_copyFrom_16 : decode cX3_copyFrom 16 = .ok (.aload_n 0, 1) := by decide +kernel
theorem dX3_copyFrom_17 : decode cX3_copyFrom 17 = .ok (.aload_n 1, 1) := by decide +kernel
theorem dX3_copyFrom_18 : decode cX3_copyFrom 18 = .ok (.getfield 18, 3) := by decide +kernel
theorem dX3_copyFrom_21 : decode cX3_copyFrom 21 = .ok (.putfield 18, 3) := by decide +kernel
theorem dX3_copyFrom_24 : decode cX3_copyFrom 24 = .ok (.aload_n 0, 1) := by decide +kernel
theorem dX3_copyFrom_25 : decode cX3_copyFrom 25 = .ok (.aload_n 1, 1) := by decide +kernel
theorem dX3_copyFrom_26 : decode cX3_copyFrom 26 = .ok (.getfield 21, 3) := by decide +kernel
theorem dX3_copyFrom_29 : decode cX3_copyFrom 29 = .ok (.putfield 21, 3) := by decide +kernel
theorem dX3_copyFrom_32 : decode cX3_copyFrom 32 = .ok (.aload_n 1, 1) := by decide +kernel
theorem dX3_copyFrom_33 : decode cX3_copyFrom 33 = .ok (.getfield 24, 3) := by decide +kernel
theorem dX3_copyFrom_36 : decode cX3_copyFrom 36 = .ok (.iconst 0, 1) := by decide +kernel
theorem dX3_copyFrom_37 : decode cX3_copyFrom 37 = .ok (.aload_n 0, 1) := by decide +kernel
theorem dX3_copyFrom_38 : decode cX3_copyFrom 38 = .ok (.getfield 24, 3) := by decide +kernel
theorem dX3_copyFrom_41 : decode cX3_copyFrom 41 = .ok (.iconst 0, 1) := by decide +kernel
theorem dX3_copyFrom_42 : decode cX3_copyFrom 42 = .ok (.iconst 5, 1) := by decide +kernel
theorem dX3_copyFrom_43 : decode cX3_copyFrom 43 = .ok (.invokestatic 60, 3) := by decide +kernel
theorem dX3_copyFrom_46 : decode cX3_copyFrom 46 = .ok (.aload_n 0, 1) := by decide +kernel
theorem dX3_copyFrom_47 : decode cX3_copyFrom 47 = .ok (.getfield 31, 3) := by decide +kernel
theorem dX3_copyFrom_50 : decode cX3_copyFrom 50 = .ok (.aload_n 1, 1) := by decide +kernel
theorem dX3_copyFrom_51 : decode cX3_copyFrom 51 = .ok (.getfield 31, 3) := by decide +kernel
theorem dX3_copyFrom_54 : decode cX3_copyFrom 54 = .ok (.invokevirtual 66, 3) := by decide +kernel
theorem dX3_copyFrom_57 : decode cX3_copyFrom 57 = .ok (.aload_n 0, 1) := by decide +kernel
theorem dX3_copyFrom_58 : decode cX3_copyFrom 58 = .ok (.getfield 38, 3) := by decide +kernel
theorem dX3_copyFrom_61 : decode cX3_copyFrom 61 = .ok (.aload_n 1, 1) := by decide +kernel
theorem dX3_copyFrom_62 : decode cX3_copyFrom 62 = .ok (.getfield 38, 3) := by decide +kernel
theorem dX3_copyFrom_65 : decode cX3_copyFrom 65 = .ok (.invokevirtual 70, 3) := by decide +kernel
theorem dX3_copyFrom_68 : decode cX3_copyFrom 68 = .ok (.aload_n 0, 1) := by decide +kernel
theorem dX3_copyFrom_69 : decode cX3_copyFrom 69 = .ok (.getfield 45, 3) := by decide +kernel
theorem dX3_copyFrom_72 : decode cX3_copyFrom 72 = .ok (.aload_n 1, 1) := by decide +kernel
theorem dX3_copyFrom_73 : decode cX3_copyFrom 73 = .ok (.getfield 45, 3) := by decide +kernel
theorem dX3_copyFrom_76 : decode cX3_copyFrom 76 = .ok (.invokevirtual 73, 3) := by decide +kernel
theorem dX3_copyFrom_79 : decode cX3_copyFrom 79 = .ok (.return_, 1) := by decide +kernel
set_option maxRecDepth 20000 in
theorem ggX3_hasNode_X4_within : GoodIn wsX3_hasNode wsX4_within := goodIn_r _ [4] (by decide +kernel) (by decide +kernel)
set_option maxRecDepth 20000 in
theorem gX3_hasNode_X4_within_n76 : GoodIn wsX3_hasNode (wsX4_within) := ggX3_hasNode_X4_within
theorem dX3_hasNode_0 : decode cX3_hasNode 0 = .ok (.iload_n 1, 1) := by decide +kernel
theorem dX3_hasNode_1 : decode cX3_hasNode 1 = .ok (.iconst 0, 1) := by decide +kernel
theorem dX3_hasNode_2 : decode cX3_hasNode 2 = .ok (.aload_n 0, 1) := by decide +kernel
theorem dX3_hasNode_3 : decode cX3_hasNode 3 = .ok (.getfield 9, 3) := by decide +kernel
theorem dX3_hasNode_6 : decode cX3_hasNode 6 = .ok (.iconst 1, 1) := by decide +kernel
theorem dX3_hasNode_7 : decode cX3_hasNode 7 = .ok (.isub, 1) := by decide +kernel
theorem dX3_hasNode_8 : decode cX3_hasNode 8 = .ok (.invokestatic 76, 3) := by decide +kernel
theorem dX3_hasNode_11 : decode cX3_hasNode 11 = .ok (.ireturn, 1) := by decide +kernel
set_option maxRecDepth 20000 in
theorem ggX3_hasLink_X4_within : GoodIn wsX3_hasLink wsX4_within := goodIn_r _ [4] (by decide +kernel) (by decide +kernel)
set_option maxRecDepth 20000 in
theorem gX3_hasLink_X4_within_n76 : GoodIn wsX3_hasLink (wsX4_within) := ggX3_hasLink_X4_within
theorem dX3_hasLink_0 : decode cX3_hasLink 0 = .ok (.iload_n 1, 1) := by decide +kernel
theorem dX3_hasLink_1 : decode cX3_hasLink 1 = .ok (.iconst 0, 1) := by decide +kernel
theorem dX3_hasLink_2 : decode cX3_hasLink 2 = .ok (.aload_n 0, 1) := by decide +kernel
theorem dX3_hasLink_3 : decode cX3_hasLink 3 = .ok (.getfield 9, 3) := by decide +kernel
theorem dX3_hasLink_6 : decode cX3_hasLink 6 = .ok (.iconst 2, 1) := by decide +kernel
theorem dX3_hasLink_7 : decode cX3_hasLink 7 = .ok (.isub, 1) := by decide +kernel
theorem dX3_hasLink_8 : decode cX3_hasLink 8 = .ok (.invokestatic 76, 3) := by decide +kernel
theorem dX3_hasLink_11 : decode cX3_hasLink 11 = .ok (.ireturn, 1) := by decide +kernel
set_option maxRecDepth 20000 in
theorem ggX3_sendPacket_X4_quotient : GoodIn wsX3_sendPacket wsX4_quotient := goodIn_r _ [10] (by decide +kernel) (by decide +kernel)
set_option maxRecDepth 20000 in
theorem gX3_sendPacket_X4_quotient_n80 : GoodIn wsX3_sendPacket (wsX4_quotient) := ggX3_sendPacket_X4_quotient
set_option maxRecDepth 20000 in
theorem ggX3_sendPacket_X2_add : GoodIn wsX3_sendPacket wsX2_add := goodIn_r _ [15, 16, 17, 18, 19, 14, 20, 45, 46] (by decide +kernel) (by decide +kernel)
set_option maxRecDepth 20000 in
theorem gX3_sendPacket_X2_add : GoodIn wsX3_sendPacket (wsV RX3 84 RX2 yX2_add wsX2_add) := goodIn_app (goodIn_of _ (by decide +kernel)) ggX3_sendPacket_X2_add
set_option maxRecDepth 20000 in
theorem ggX3_sendPacket_X1_drops : GoodIn wsX3_sendPacket wsX1_drops := goodIn_r _ [25, 26, 27, 28, 24, 29, 30, 47] (by decide +kernel) (by decide +kernel)
set_option maxRecDepth 20000 in
theorem gX3_sendPacket_X1_drops : GoodIn wsX3_sendPacket (wsV RX3 88 RX1 yX1_drops wsX1_drops) := goodIn_app (goodIn_of _ (by decide +kernel)) ggX3_sendPacket_X1_drops
set_option maxRecDepth 20000 in
theorem ggX3_sendPacket_X1_ticksThere : GoodIn wsX3_sendPacket wsX1_ticksThere := goodIn_r _ [34, 26, 27, 28, 24, 29, 30, 35, 9, 36, 47] (by decide +kernel) (by decide +kernel)
set_option maxRecDepth 20000 in
theorem gX3_sendPacket_X1_ticksThere : GoodIn wsX3_sendPacket (wsV RX3 92 RX1 yX1_ticksThere wsX1_ticksThere) := goodIn_app (goodIn_of _ (by decide +kernel)) ggX3_sendPacket_X1_ticksThere
theorem dX3_sendPacket_0 : decode cX3_sendPacket 0 = .ok (.aload_n 0, 1) := by decide +kernel
theorem dX3_sendPacket_1 : decode cX3_sendPacket 1 = .ok (.getfield 18, 3) := by decide +kernel
theorem dX3_sendPacket_4 : decode cX3_sendPacket 4 = .ok (.istore_n 1, 1) := by decide +kernel
theorem dX3_sendPacket_5 : decode cX3_sendPacket 5 = .ok (.iload_n 1, 1) := by decide +kernel
theorem dX3_sendPacket_6 : decode cX3_sendPacket 6 = .ok (.aload_n 0, 1) := by decide +kernel
theorem dX3_sendPacket_7 : decode cX3_sendPacket 7 = .ok (.getfield 21, 3) := by decide +kernel
theorem dX3_sendPacket_10 : decode cX3_sendPacket 10 = .ok (.invokestatic 80, 3) := by decide +kernel
theorem dX3_sendPacket_13 : decode cX3_sendPacket 13 = .ok (.istore_n 2, 1) := by decide +kernel
theorem dX3_sendPacket_14 : decode cX3_sendPacket 14 = .ok (.aload_n 0, 1) := by decide +kernel
theorem dX3_sendPacket_15 : decode cX3_sendPacket 15 = .ok (.getfield 15, 3) := by decide +kernel
theorem dX3_sendPacket_18 : decode cX3_sendPacket 18 = .ok (.istore_n 3, 1) := by decide +kernel
theorem dX3_sendPacket_19 : decode cX3_sendPacket 19 = .ok (.aload_n 0, 1) := by decide +kernel
theorem dX3_sendPacket_20 : decode cX3_sendPacket 20 = .ok (.dup, 1) := by decide +kernel
theorem dX3_sendPacket_21 : decode cX3_sendPacket 21 = .ok (.getfield 18, 3) := by decide +kernel
theorem dX3_sendPacket_24 : decode cX3_sendPacket 24 = .ok (.iconst 1, 1) := by decide +kernel
theorem dX3_sendPacket_25 : decode cX3_sendPacket 25 = .ok (.iadd, 1) := by decide +kernel
theorem dX3_sendPacket_26 : decode cX3_sendPacket 26 = .ok (.putfield 18, 3) := by decide +kernel
theorem dX3_sendPacket_29 : decode cX3_sendPacket 29 = .ok (.aload_n 0, 1) := by decide +kernel
theorem dX3_sendPacket_30 : decode cX3_sendPacket 30 = .ok (.dup, 1) := by decide +kernel
theorem dX3_sendPacket_31 : decode cX3_sendPacket 31 = .ok (.getfield 15, 3) := by decide +kernel
theorem dX3_sendPacket_34 : decode cX3_sendPacket 34 = .ok (.iconst 1, 1) := by decide +kernel
theorem dX3_sendPacket_35 : decode cX3_sendPacket 35 = .ok (.iadd, 1) := by decide +kernel
theorem dX3_sendPacket_36 : decode cX3_sendPacket 36 = .ok (.putfield 15, 3) := by decide +kernel
theorem dX3_sendPacket_39 : decode cX3_sendPacket 39 = .ok (.aload_n 0, 1) := by decide +kernel
theorem dX3_sendPacket_40 : decode cX3_sendPacket 40 = .ok (.getfield 38, 3) := by decide +kernel
theorem dX3_sendPacket_43 : decode cX3_sendPacket 43 = .ok (.iconst 0, 1) := by decide +kernel
theorem dX3_sendPacket_44 : decode cX3_sendPacket 44 = .ok (.iload_n 2, 1) := by decide +kernel
theorem dX3_sendPacket_45 : decode cX3_sendPacket 45 = .ok (.iload_n 3, 1) := by decide +kernel
theorem dX3_sendPacket_46 : decode cX3_sendPacket 46 = .ok (.aload_n 0, 1) := by decide +kernel
theorem dX3_sendPacket_47 : decode cX3_sendPacket 47 = .ok (.getfield 24, 3) := by decide +kernel
theorem dX3_sendPacket_50 : decode cX3_sendPacket 50 = .ok (.iconst 0, 1) := by decide +kernel
theorem dX3_sendPacket_51 : decode cX3_sendPacket 51 = .ok (.iaload, 1) := by decide +kernel
theorem dX3_sendPacket_52 : decode cX3_sendPacket 52 = .ok (.iadd, 1) := by decide +kernel
theorem dX3_sendPacket_53 : decode cX3_sendPacket 53 = .ok (.invokevirtual 84, 3) := by decide +kernel
theorem dX3_sendPacket_56 : decode cX3_sendPacket 56 = .ok (.iconst 0, 1) := by decide +kernel
theorem dX3_sendPacket_57 : decode cX3_sendPacket 57 = .ok (.istore 4, 2) := by decide +kernel
theorem dX3_sendPacket_59 : decode cX3_sendPacket 59 = .ok (.iload 4, 2) := by decide +kernel
theorem dX3_sendPacket_61 : decode cX3_sendPacket 61 = .ok (.aload_n 0, 1) := by decide +kernel
theorem dX3_sendPacket_62 : decode cX3_sendPacket 62 = .ok (.getfield 9, 3) := by decide +kernel
theorem dX3_sendPacket_65 : decode cX3_sendPacket 65 = .ok (.iconst 1, 1) := by decide +kernel
theorem dX3_sendPacket_66 : decode cX3_sendPacket 66 = .ok (.isub, 1) := by decide +kernel
theorem dX3_sendPacket_67 : decode cX3_sendPacket 67 = .ok (.if_icmp .ge 60, 3) := by decide +kernel
theorem dX3_sendPacket_70 : decode cX3_sendPacket 70 = .ok (.aload_n 0, 1) := by decide +kernel
theorem dX3_sendPacket_71 : decode cX3_sendPacket 71 = .ok (.getfield 31, 3) := by decide +kernel
theorem dX3_sendPacket_74 : decode cX3_sendPacket 74 = .ok (.iload 4, 2) := by decide +kernel
theorem dX3_sendPacket_76 : decode cX3_sendPacket 76 = .ok (.iload_n 1, 1) := by decide +kernel
theorem dX3_sendPacket_77 : decode cX3_sendPacket 77 = .ok (.invokevirtual 88, 3) := by decide +kernel
theorem dX3_sendPacket_80 : decode cX3_sendPacket 80 = .ok (.ifCond .eq 5, 3) := by decide +kernel
theorem dX3_sendPacket_83 : decode cX3_sendPacket 83 = .ok (.iconst 0, 1) := by decide +kernel
theorem dX3_sendPacket_84 : decode cX3_sendPacket 84 = .ok (.ireturn, 1) := by decide +kernel
theorem dX3_sendPacket_85 : decode cX3_sendPacket 85 = .ok (.iload_n 3, 1) := by decide +kernel
theorem dX3_sendPacket_86 : decode cX3_sendPacket 86 = .ok (.aload_n 0, 1) := by decide +kernel
theorem dX3_sendPacket_87 : decode cX3_sendPacket 87 = .ok (.getfield 31, 3) := by decide +kernel
theorem dX3_sendPacket_90 : decode cX3_sendPacket 90 = .ok (.iload 4, 2) := by decide +kernel
theorem dX3_sendPacket_92 : decode cX3_sendPacket 92 = .ok (.iload_n 3, 1) := by decide +kernel
theorem dX3_sendPacket_93 : decode cX3_sendPacket 93 = .ok (.invokevirtual 92, 3) := by decide +kernel
theorem dX3_sendPacket_96 : decode cX3_sendPacket 96 = .ok (.iadd, 1) := by decide +kernel
theorem dX3_sendPacket_97 : decode cX3_sendPacket 97 = .ok (.istore_n 3, 1) := by decide +kernel
theorem dX3_sendPacket_98 : decode cX3_sendPacket 98 = .ok (.aload_n 0, 1) := by decide +kernel
theorem dX3_sendPacket_99 : decode cX3_sendPacket 99 = .ok (.getfield 38, 3) := by decide +kernel
theorem dX3_sendPacket_102 : decode cX3_sendPacket 102 = .ok (.iload 4, 2) := by decide +kernel
theorem dX3_sendPacket_104 : decode cX3_sendPacket 104 = .ok (.iconst 1, 1) := by decide +kernel
theorem dX3_sendPacket_105 : decode cX3_sendPacket 105 = .ok (.iadd, 1) := by decide +kernel
theorem dX3_sendPacket_106 : decode cX3_sendPacket 106 = .ok (.iload_n 2, 1) := by decide +kernel
theorem dX3_sendPacket_107 : decode cX3_sendPacket 107 = .ok (.iload_n 3, 1) := by decide +kernel
theorem dX3_sendPacket_108 : decode cX3_sendPacket 108 = .ok (.aload_n 0, 1) := by decide +kernel
theorem dX3_sendPacket_109 : decode cX3_sendPacket 109 = .ok (.getfield 24, 3) := by decide +kernel
theorem dX3_sendPacket_112 : decode cX3_sendPacket 112 = .ok (.iload 4, 2) := by decide +kernel
theorem dX3_sendPacket_114 : decode cX3_sendPacket 114 = .ok (.iconst 1, 1) := by decide +kernel
theorem dX3_sendPacket_115 : decode cX3_sendPacket 115 = .ok (.iadd, 1) := by decide +kernel
theorem dX3_sendPacket_116 : decode cX3_sendPacket 116 = .ok (.iaload, 1) := by decide +kernel
theorem dX3_sendPacket_117 : decode cX3_sendPacket 117 = .ok (.iadd, 1) := by decide +kernel
theorem dX3_sendPacket_118 : decode cX3_sendPacket 118 = .ok (.invokevirtual 84, 3) := by decide +kernel
theorem dX3_sendPacket_121 : decode cX3_sendPacket 121 = .ok (.iinc 4 1, 3) := by decide +kernel
theorem dX3_sendPacket_124 : decode cX3_sendPacket 124 = .ok (.goto (-65), 3) := by decide +kernel
theorem dX3_sendPacket_127 : decode cX3_sendPacket 127 = .ok (.iconst 1, 1) := by decide +kernel
theorem dX3_sendPacket_128 : decode cX3_sendPacket 128 = .ok (.ireturn, 1) := by decide +kernel
set_option maxRecDepth 20000 in
theorem ggX3_soundPath_X1_ticksThere : GoodIn wsX3_soundPath wsX1_ticksThere := goodIn_r _ [9, 10, 11, 12, 8, 13, 14, 15, 16, 17, 43] (by decide +kernel) (by decide +kernel)
set_option maxRecDepth 20000 in
theorem gX3_soundPath_X1_ticksThere : GoodIn wsX3_soundPath (wsV RX3 92 RX1 yX1_ticksThere wsX1_ticksThere) := goodIn_app (goodIn_of _ (by decide +kernel)) ggX3_soundPath_X1_ticksThere
set_option maxRecDepth 20000 in
theorem ggX3_soundPath_X1_ticksBack : GoodIn wsX3_soundPath wsX1_ticksBack := goodIn_r _ [21, 10, 11, 12, 8, 13, 14, 15, 16, 17, 43] (by decide +kernel) (by decide +kernel)
set_option maxRecDepth 20000 in
theorem gX3_soundPath_X1_ticksBack : GoodIn wsX3_soundPath (wsV RX3 95 RX1 yX1_ticksBack wsX1_ticksBack) := goodIn_app (goodIn_of _ (by decide +kernel)) ggX3_soundPath_X1_ticksBack
set_option maxRecDepth 20000 in
theorem ggX3_soundPath_X0_narrow : GoodIn wsX3_soundPath wsX0_narrow := goodIn_r _ [26, 27, 28, 29, 30, 31, 32, 33, 25, 34, 44, 45] (by decide +kernel) (by decide +kernel)
set_option maxRecDepth 20000 in
theorem gX3_soundPath_X0_narrow : GoodIn wsX3_soundPath (wsV RX3 98 RX0 yX0_narrow wsX0_narrow) := goodIn_app (goodIn_of _ (by decide +kernel)) ggX3_soundPath_X0_narrow
theorem dX3_soundPath_0 : decode cX3_soundPath 0 = .ok (.aload_n 0, 1) := by decide +kernel
theorem dX3_soundPath_1 : decode cX3_soundPath 1 = .ok (.getfield 15, 3) := by decide +kernel
theorem dX3_soundPath_4 : decode cX3_soundPath 4 = .ok (.istore_n 3, 1) := by decide +kernel
theorem dX3_soundPath_5 : decode cX3_soundPath 5 = .ok (.iload_n 1, 1) := by decide +kernel
theorem dX3_soundPath_6 : decode cX3_soundPath 6 = .ok (.istore 4, 2) := by decide +kernel
theorem dX3_soundPath_8 : decode cX3_soundPath 8 = .ok (.iload 4, 2) := by decide +kernel
theorem dX3_soundPath_10 : decode cX3_soundPath 10 = .ok (.iload_n 2, 1) := by decide +kernel
theorem dX3_soundPath_11 : decode cX3_soundPath 11 = .ok (.if_icmp .ge 22, 3) := by decide +kernel
theorem dX3_soundPath_14 : decode cX3_soundPath 14 = .ok (.iload_n 3, 1) := by decide +kernel
theorem dX3_soundPath_15 : decode cX3_soundPath 15 = .ok (.aload_n 0, 1) := by decide +kernel
theorem dX3_soundPath_16 : decode cX3_soundPath 16 = .ok (.getfield 31, 3) := by decide +kernel
theorem dX3_soundPath_19 : decode cX3_soundPath 19 = .ok (.iload 4, 2) := by decide +kernel
theorem dX3_soundPath_21 : decode cX3_soundPath 21 = .ok (.iload_n 3, 1) := by decide +kernel
theorem dX3_soundPath_22 : decode cX3_soundPath 22 = .ok (.invokevirtual 92, 3) := by decide +kernel
theorem dX3_soundPath_25 : decode cX3_soundPath 25 = .ok (.iadd, 1) := by decide +kernel
theorem dX3_soundPath_26 : decode cX3_soundPath 26 = .ok (.istore_n 3, 1) := by decide +kernel
theorem dX3_soundPath_27 : decode cX3_soundPath 27 = .ok (.iinc 4 1, 3) := by decide +kernel
theorem dX3_soundPath_30 : decode cX3_soundPath 30 = .ok (.goto (-22), 3) := by decide +kernel
theorem dX3_soundPath_33 : decode cX3_soundPath 33 = .ok (.iload_n 3, 1) := by decide +kernel
theorem dX3_soundPath_34 : decode cX3_soundPath 34 = .ok (.istore 4, 2) := by decide +kernel
theorem dX3_soundPath_36 : decode cX3_soundPath 36 = .ok (.iload_n 2, 1) := by decide +kernel
theorem dX3_soundPath_37 : decode cX3_soundPath 37 = .ok (.iconst 1, 1) := by decide +kernel
theorem dX3_soundPath_38 : decode cX3_soundPath 38 = .ok (.isub, 1) := by decide +kernel
theorem dX3_soundPath_39 : decode cX3_soundPath 39 = .ok (.istore 5, 2) := by decide +kernel
theorem dX3_soundPath_41 : decode cX3_soundPath 41 = .ok (.iload 5, 2) := by decide +kernel
theorem dX3_soundPath_43 : decode cX3_soundPath 43 = .ok (.iload_n 1, 1) := by decide +kernel
theorem dX3_soundPath_44 : decode cX3_soundPath 44 = .ok (.if_icmp .lt 25, 3) := by decide +kernel
theorem dX3_soundPath_47 : decode cX3_soundPath 47 = .ok (.iload 4, 2) := by decide +kernel
theorem dX3_soundPath_49 : decode cX3_soundPath 49 = .ok (.aload_n 0, 1) := by decide +kernel
theorem dX3_soundPath_50 : decode cX3_soundPath 50 = .ok (.getfield 31, 3) := by decide +kernel
theorem dX3_soundPath_53 : decode cX3_soundPath 53 = .ok (.iload 5, 2) := by decide +kernel
theorem dX3_soundPath_55 : decode cX3_soundPath 55 = .ok (.iload 4, 2) := by decide +kernel
theorem dX3_soundPath_57 : decode cX3_soundPath 57 = .ok (.invokevirtual 95, 3) := by decide +kernel
theorem dX3_soundPath_60 : decode cX3_soundPath 60 = .ok (.iadd, 1) := by decide +kernel
theorem dX3_soundPath_61 : decode cX3_soundPath 61 = .ok (.istore 4, 2) := by decide +kernel
theorem dX3_soundPath_63 : decode cX3_soundPath 63 = .ok (.iinc 5 (-1), 3) := by decide +kernel
theorem dX3_soundPath_66 : decode cX3_soundPath 66 = .ok (.goto (-25), 3) := by decide +kernel
theorem dX3_soundPath_69 : decode cX3_soundPath 69 = .ok (.aload_n 0, 1) := by decide +kernel
theorem dX3_soundPath_70 : decode cX3_soundPath 70 = .ok (.getfield 15, 3) := by decide +kernel
theorem dX3_soundPath_73 : decode cX3_soundPath 73 = .ok (.aload_n 0, 1) := by decide +kernel
theorem dX3_soundPath_74 : decode cX3_soundPath 74 = .ok (.getfield 24, 3) := by decide +kernel
theorem dX3_soundPath_77 : decode cX3_soundPath 77 = .ok (.iload_n 1, 1) := by decide +kernel
theorem dX3_soundPath_78 : decode cX3_soundPath 78 = .ok (.iaload, 1) := by decide +kernel
theorem dX3_soundPath_79 : decode cX3_soundPath 79 = .ok (.iadd, 1) := by decide +kernel
theorem dX3_soundPath_80 : decode cX3_soundPath 80 = .ok (.istore 5, 2) := by decide +kernel
theorem dX3_soundPath_82 : decode cX3_soundPath 82 = .ok (.iload_n 3, 1) := by decide +kernel
theorem dX3_soundPath_83 : decode cX3_soundPath 83 = .ok (.aload_n 0, 1) := by decide +kernel
theorem dX3_soundPath_84 : decode cX3_soundPath 84 = .ok (.getfield 24, 3) := by decide +kernel
theorem dX3_soundPath_87 : decode cX3_soundPath 87 = .ok (.iload_n 2, 1) := by decide +kernel
theorem dX3_soundPath_88 : decode cX3_soundPath 88 = .ok (.iaload, 1) := by decide +kernel
theorem dX3_soundPath_89 : decode cX3_soundPath 89 = .ok (.iadd, 1) := by decide +kernel
theorem dX3_soundPath_90 : decode cX3_soundPath 90 = .ok (.istore 6, 2) := by decide +kernel
theorem dX3_soundPath_92 : decode cX3_soundPath 92 = .ok (.iload 4, 2) := by decide +kernel
theorem dX3_soundPath_94 : decode cX3_soundPath 94 = .ok (.aload_n 0, 1) := by decide +kernel
theorem dX3_soundPath_95 : decode cX3_soundPath 95 = .ok (.getfield 24, 3) := by decide +kernel
theorem dX3_soundPath_98 : decode cX3_soundPath 98 = .ok (.iload_n 1, 1) := by decide +kernel
theorem dX3_soundPath_99 : decode cX3_soundPath 99 = .ok (.iaload, 1) := by decide +kernel
theorem dX3_soundPath_100 : decode cX3_soundPath 100 = .ok (.iadd, 1) := by decide +kernel
theorem dX3_soundPath_101 : decode cX3_soundPath 101 = .ok (.istore 7, 2) := by decide +kernel
theorem dX3_soundPath_103 : decode cX3_soundPath 103 = .ok (.iload_n 2, 1) := by decide +kernel
theorem dX3_soundPath_104 : decode cX3_soundPath 104 = .ok (.iload_n 1, 1) := by decide +kernel
theorem dX3_soundPath_105 : decode cX3_soundPath 105 = .ok (.isub, 1) := by decide +kernel
theorem dX3_soundPath_106 : decode cX3_soundPath 106 = .ok (.istore 8, 2) := by decide +kernel
theorem dX3_soundPath_108 : decode cX3_soundPath 108 = .ok (.aload_n 0, 1) := by decide +kernel
theorem dX3_soundPath_109 : decode cX3_soundPath 109 = .ok (.getfield 45, 3) := by decide +kernel
theorem dX3_soundPath_112 : decode cX3_soundPath 112 = .ok (.iload_n 1, 1) := by decide +kernel
theorem dX3_soundPath_113 : decode cX3_soundPath 113 = .ok (.iload_n 2, 1) := by decide +kernel
theorem dX3_soundPath_114 : decode cX3_soundPath 114 = .ok (.iload 6, 2) := by decide +kernel
theorem dX3_soundPath_116 : decode cX3_soundPath 116 = .ok (.iload 5, 2) := by decide +kernel
theorem dX3_soundPath_118 : decode cX3_soundPath 118 = .ok (.isub, 1) := by decide +kernel
theorem dX3_soundPath_119 : decode cX3_soundPath 119 = .ok (.iload 8, 2) := by decide +kernel
theorem dX3_soundPath_121 : decode cX3_soundPath 121 = .ok (.isub, 1) := by decide +kernel
theorem dX3_soundPath_122 : decode cX3_soundPath 122 = .ok (.iload 6, 2) := by decide +kernel
theorem dX3_soundPath_124 : decode cX3_soundPath 124 = .ok (.iload 7, 2) := by decide +kernel
theorem dX3_soundPath_126 : decode cX3_soundPath 126 = .ok (.isub, 1) := by decide +kernel
theorem dX3_soundPath_127 : decode cX3_soundPath 127 = .ok (.iload 8, 2) := by decide +kernel
theorem dX3_soundPath_129 : decode cX3_soundPath 129 = .ok (.iadd, 1) := by decide +kernel
theorem dX3_soundPath_130 : decode cX3_soundPath 130 = .ok (.invokevirtual 98, 3) := by decide +kernel
theorem dX3_soundPath_133 : decode cX3_soundPath 133 = .ok (.iload 4, 2) := by decide +kernel
theorem dX3_soundPath_135 : decode cX3_soundPath 135 = .ok (.aload_n 0, 1) := by decide +kernel
theorem dX3_soundPath_136 : decode cX3_soundPath 136 = .ok (.getfield 15, 3) := by decide +kernel
theorem dX3_soundPath_139 : decode cX3_soundPath 139 = .ok (.isub, 1) := by decide +kernel
theorem dX3_soundPath_140 : decode cX3_soundPath 140 = .ok (.istore 9, 2) := by decide +kernel
theorem dX3_soundPath_142 : decode cX3_soundPath 142 = .ok (.aload_n 0, 1) := by decide +kernel
theorem dX3_soundPath_143 : decode cX3_soundPath 143 = .ok (.dup, 1) := by decide +kernel
theorem dX3_soundPath_144 : decode cX3_soundPath 144 = .ok (.getfield 15, 3) := by decide +kernel
theorem dX3_soundPath_147 : decode cX3_soundPath 147 = .ok (.iconst 1, 1) := by decide +kernel
theorem dX3_soundPath_148 : decode cX3_soundPath 148 = .ok (.iadd, 1) := by decide +kernel
theorem dX3_soundPath_149 : decode cX3_soundPath 149 = .ok (.putfield 15, 3) := by decide +kernel
theorem dX3_soundPath_152 : decode cX3_soundPath 152 = .ok (.iload 9, 2) := by decide +kernel
theorem dX3_soundPath_154 : decode cX3_soundPath 154 = .ok (.ireturn, 1) := by decide +kernel
set_option maxRecDepth 20000 in
theorem ggX3_firstBlockAbove_X2_lostBetween : GoodIn wsX3_firstBlockAbove wsX2_lostBetween := goodIn_r _ [7, 8, 9, 10, 6, 11, 12, 13, 14, 15, 24, 25] (by decide +kernel) (by decide +kernel)
set_option maxRecDepth 20000 in
theorem gX3_firstBlockAbove_X2_lostBetween : GoodIn wsX3_firstBlockAbove (wsV RX3 102 RX2 yX2_lostBetween wsX2_lostBetween) := goodIn_app (goodIn_of _ (by decide +kernel)) ggX3_firstBlockAbove_X2_lostBetween
theorem dX3_firstBlockAbove_0 : decode cX3_firstBlockAbove 0 = .ok (.iconst 0, 1) := by decide +kernel
theorem dX3_firstBlockAbove_1 : decode cX3_firstBlockAbove 1 = .ok (.istore_n 2, 1) := by decide +kernel
theorem dX3_firstBlockAbove_2 : decode cX3_firstBlockAbove 2 = .ok (.iload_n 2, 1) := by decide +kernel
theorem dX3_firstBlockAbove_3 : decode cX3_firstBlockAbove 3 = .ok (.sipush 200, 3) := by decide +kernel
theorem dX3_firstBlockAbove_6 : decode cX3_firstBlockAbove 6 = .ok (.if_icmp .ge 30, 3) := by decide +kernel
theorem dX3_firstBlockAbove_9 : decode cX3_firstBlockAbove 9 = .ok (.aload_n 0, 1) := by decide +kernel
theorem dX3_firstBlockAbove_10 : decode cX3_firstBlockAbove 10 = .ok (.getfield 38, 3) := by decide +kernel
theorem dX3_firstBlockAbove_13 : decode cX3_firstBlockAbove 13 = .ok (.iconst 0, 1) := by decide +kernel
theorem dX3_firstBlockAbove_14 : decode cX3_firstBlockAbove 14 = .ok (.aload_n 0, 1) := by decide +kernel
theorem dX3_firstBlockAbove_15 : decode cX3_firstBlockAbove 15 = .ok (.getfield 9, 3) := by decide +kernel
theorem dX3_firstBlockAbove_18 : decode cX3_firstBlockAbove 18 = .ok (.iconst 1, 1) := by decide +kernel
theorem dX3_firstBlockAbove_19 : decode cX3_firstBlockAbove 19 = .ok (.isub, 1) := by decide +kernel
theorem dX3_firstBlockAbove_20 : decode cX3_firstBlockAbove 20 = .ok (.iload_n 2, 1) := by decide +kernel
theorem dX3_firstBlockAbove_21 : decode cX3_firstBlockAbove 21 = .ok (.invokevirtual 102, 3) := by decide +kernel
theorem dX3_firstBlockAbove_24 : decode cX3_firstBlockAbove 24 = .ok (.iload_n 1, 1) := by decide +kernel
theorem dX3_firstBlockAbove_25 : decode cX3_firstBlockAbove 25 = .ok (.if_icmp .le 5, 3) := by decide +kernel
theorem dX3_firstBlockAbove_28 : decode cX3_firstBlockAbove 28 = .ok (.iload_n 2, 1) := by decide +kernel
theorem dX3_firstBlockAbove_29 : decode cX3_firstBlockAbove 29 = .ok (.ireturn, 1) := by decide +kernel
theorem dX3_firstBlockAbove_30 : decode cX3_firstBlockAbove 30 = .ok (.iinc 2 1, 3) := by decide +kernel
theorem dX3_firstBlockAbove_33 : decode cX3_firstBlockAbove 33 = .ok (.goto (-31), 3) := by decide +kernel
theorem dX3_firstBlockAbove_36 : decode cX3_firstBlockAbove 36 = .ok (.sipush 200, 3) := by decide +kernel
theorem dX3_firstBlockAbove_39 : decode cX3_firstBlockAbove 39 = .ok (.ireturn, 1) := by decide +kernel
set_option maxRecDepth 20000 in
theorem ggX3_firstLinkThatLost_X2_lostBetween : GoodIn wsX3_firstLinkThatLost wsX2_lostBetween := goodIn_r _ [7, 8, 9, 10, 6, 11, 12, 13, 14, 15, 24, 25] (by decide +kernel) (by decide +kernel)
set_option maxRecDepth 20000 in
theorem gX3_firstLinkThatLost_X2_lostBetween : GoodIn wsX3_firstLinkThatLost (wsV RX3 102 RX2 yX2_lostBetween wsX2_lostBetween) := goodIn_app (goodIn_of _ (by decide +kernel)) ggX3_firstLinkThatLost_X2_lostBetween
theorem dX3_firstLinkThatLost_0 : decode cX3_firstLinkThatLost 0 = .ok (.iconst 0, 1) := by decide +kernel
theorem dX3_firstLinkThatLost_1 : decode cX3_firstLinkThatLost 1 = .ok (.istore_n 2, 1) := by decide +kernel
theorem dX3_firstLinkThatLost_2 : decode cX3_firstLinkThatLost 2 = .ok (.iload_n 2, 1) := by decide +kernel
theorem dX3_firstLinkThatLost_3 : decode cX3_firstLinkThatLost 3 = .ok (.aload_n 0, 1) := by decide +kernel
theorem dX3_firstLinkThatLost_4 : decode cX3_firstLinkThatLost 4 = .ok (.getfield 9, 3) := by decide +kernel
theorem dX3_firstLinkThatLost_7 : decode cX3_firstLinkThatLost 7 = .ok (.iconst 2, 1) := by decide +kernel
theorem dX3_firstLinkThatLost_8 : decode cX3_firstLinkThatLost 8 = .ok (.isub, 1) := by decide +kernel
theorem dX3_firstLinkThatLost_9 : decode cX3_firstLinkThatLost 9 = .ok (.if_icmp .ge 26, 3) := by decide +kernel
theorem dX3_firstLinkThatLost_12 : decode cX3_firstLinkThatLost 12 = .ok (.aload_n 0, 1) := by decide +kernel
theorem dX3_firstLinkThatLost_13 : decode cX3_firstLinkThatLost 13 = .ok (.getfield 38, 3) := by decide +kernel
theorem dX3_firstLinkThatLost_16 : decode cX3_firstLinkThatLost 16 = .ok (.iload_n 2, 1) := by decide +kernel
theorem dX3_firstLinkThatLost_17 : decode cX3_firstLinkThatLost 17 = .ok (.iload_n 2, 1) := by decide +kernel
theorem dX3_firstLinkThatLost_18 : decode cX3_firstLinkThatLost 18 = .ok (.iconst 1, 1) := by decide +kernel
theorem dX3_firstLinkThatLost_19 : decode cX3_firstLinkThatLost 19 = .ok (.iadd, 1) := by decide +kernel
theorem dX3_firstLinkThatLost_20 : decode cX3_firstLinkThatLost 20 = .ok (.iload_n 1, 1) := by decide +kernel
theorem dX3_firstLinkThatLost_21 : decode cX3_firstLinkThatLost 21 = .ok (.invokevirtual 102, 3) := by decide +kernel
theorem dX3_firstLinkThatLost_24 : decode cX3_firstLinkThatLost 24 = .ok (.ifCond .le 5, 3) := by decide +kernel
theorem dX3_firstLinkThatLost_27 : decode cX3_firstLinkThatLost 27 = .ok (.iload_n 2, 1) := by decide +kernel
theorem dX3_firstLinkThatLost_28 : decode cX3_firstLinkThatLost 28 = .ok (.ireturn, 1) := by decide +kernel
theorem dX3_firstLinkThatLost_29 : decode cX3_firstLinkThatLost 29 = .ok (.iinc 2 1, 3) := by decide +kernel
theorem dX3_firstLinkThatLost_32 : decode cX3_firstLinkThatLost 32 = .ok (.goto (-30), 3) := by decide +kernel
theorem dX3_firstLinkThatLost_35 : decode cX3_firstLinkThatLost 35 = .ok (.aload_n 0, 1) := by decide +kernel
theorem dX3_firstLinkThatLost_36 : decode cX3_firstLinkThatLost 36 = .ok (.getfield 9, 3) := by decide +kernel
theorem dX3_firstLinkThatLost_39 : decode cX3_firstLinkThatLost 39 = .ok (.iconst 2, 1) := by decide +kernel
theorem dX3_firstLinkThatLost_40 : decode cX3_firstLinkThatLost 40 = .ok (.isub, 1) := by decide +kernel
theorem dX3_firstLinkThatLost_41 : decode cX3_firstLinkThatLost 41 = .ok (.ireturn, 1) := by decide +kernel
