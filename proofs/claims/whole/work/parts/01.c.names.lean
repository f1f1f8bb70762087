theorem dX0_init_0 : decode cX0_init 0 = .ok (.aload_n 0, 1) := by decide +kernel
theorem dX0_init_1 : decode cX0_init 1 = .ok (.invokespecial 3, 3) := by decide +kernel
theorem dX0_init_4 : decode cX0_init 4 = .ok (.aload_n 0, 1) := by decide +kernel
theorem dX0_init_5 : decode cX0_init 5 = .ok (.bipush 80, 2) := by decide +kernel
theorem dX0_init_7 : decode cX0_init 7 = .ok (.newarray .boolean, 2) := by decide +kernel
theorem dX0_init_9 : decode cX0_init 9 = .ok (.putfield 9, 3) := by decide +kernel
theorem dX0_init_12 : decode cX0_init 12 = .ok (.aload_n 0, 1) := by decide +kernel
theorem dX0_init_13 : decode cX0_init 13 = .ok (.bipush 40, 2) := by decide +kernel
theorem dX0_init_15 : decode cX0_init 15 = .ok (.newarray .int, 2) := by decide +kernel
theorem dX0_init_17 : decode cX0_init 17 = .ok (.putfield 15, 3) := by decide +kernel
theorem dX0_init_20 : decode cX0_init 20 = .ok (.aload_n 0, 1) := by decide +kernel
theorem dX0_init_21 : decode cX0_init 21 = .ok (.bipush 20, 2) := by decide +kernel
theorem dX0_init_23 : decode cX0_init 23 = .ok (.newarray .boolean, 2) := by decide +kernel
theorem dX0_init_25 : decode cX0_init 25 = .ok (.putfield 19, 3) := by decide +kernel
theorem dX0_init_28 : decode cX0_init 28 = .ok (.return_, 1) := by decide +kernel
set_option maxRecDepth 20000 in
theorem ggX0_begin_X1_mayEnter : GoodIn wsX0_begin wsX1_mayEnter := goodIn_r _ [5, 6, 7, 8, 9, 10, 11, 12, 13, 14, 15, 16, 17, 18, 19, 20, 21, 22, 23] (by decide +kernel) (by decide +kernel)
set_option maxRecDepth 20000 in
theorem gX0_begin_X1_mayEnter_n34 : GoodIn wsX0_begin (wsX1_mayEnter) := ggX0_begin_X1_mayEnter
theorem dX0_begin_0 : decode cX0_begin 0 = .ok (.iconst 0, 1) := by decide +kernel
theorem dX0_begin_1 : decode cX0_begin 1 = .ok (.istore 4, 2) := by decide +kernel
theorem dX0_begin_3 : decode cX0_begin 3 = .ok (.iload 4, 2) := by decide +kernel
theorem dX0_begin_5 : decode cX0_begin 5 = .ok (.aload_n 1, 1) := by decide +kernel
theorem dX0_begin_6 : decode cX0_begin 6 = .ok (.getfield 22, 3) := by decide +kernel
theorem dX0_begin_9 : decode cX0_begin 9 = .ok (.if_icmp .ge 47, 3) := by decide +kernel
theorem dX0_begin_12 : decode cX0_begin 12 = .ok (.aload_n 0, 1) := by decide +kernel
theorem dX0_begin_13 : decode cX0_begin 13 = .ok (.getfield 9, 3) := by decide +kernel
theorem dX0_begin_16 : decode cX0_begin 16 = .ok (.iload 4, 2) := by decide +kernel
theorem dX0_begin_18 : decode cX0_begin 18 = .ok (.aload_n 1, 1) := by decide +kernel
theorem dX0_begin_19 : decode cX0_begin 19 = .ok (.getfield 28, 3) := by decide +kernel
theorem dX0_begin_22 : decode cX0_begin 22 = .ok (.iload 4, 2) := by decide +kernel
theorem dX0_begin_24 : decode cX0_begin 24 = .ok (.baload, 1) := by decide +kernel
theorem dX0_begin_25 : decode cX0_begin 25 = .ok (.ifCond .ne 23, 3) := by decide +kernel
theorem dX0_begin_28 : decode cX0_begin 28 = .ok (.aload_n 1, 1) := by decide +kernel
theorem dX0_begin_29 : decode cX0_begin 29 = .ok (.aload_n 1, 1) := by decide +kernel
theorem dX0_begin_30 : decode cX0_begin 30 = .ok (.getfield 31, 3) := by decide +kernel
theorem dX0_begin_33 : decode cX0_begin 33 = .ok (.iload 4, 2) := by decide +kernel
theorem dX0_begin_35 : decode cX0_begin 35 = .ok (.iaload, 1) := by decide +kernel
theorem dX0_begin_36 : decode cX0_begin 36 = .ok (.iload_n 2, 1) := by decide +kernel
theorem dX0_begin_37 : decode cX0_begin 37 = .ok (.iload_n 3, 1) := by decide +kernel
theorem dX0_begin_38 : decode cX0_begin 38 = .ok (.invokevirtual 34, 3) := by decide +kernel
theorem dX0_begin_41 : decode cX0_begin 41 = .ok (.ifCond .eq 7, 3) := by decide +kernel
theorem dX0_begin_44 : decode cX0_begin 44 = .ok (.iconst 1, 1) := by decide +kernel
theorem dX0_begin_45 : decode cX0_begin 45 = .ok (.goto 4, 3) := by decide +kernel
theorem dX0_begin_48 : decode cX0_begin 48 = .ok (.iconst 0, 1) := by decide +kernel
theorem dX0_begin_49 : decode cX0_begin 49 = .ok (.bastore, 1) := by decide +kernel
theorem dX0_begin_50 : decode cX0_begin 50 = .ok (.iinc 4 1, 3) := by decide +kernel
theorem dX0_begin_53 : decode cX0_begin 53 = .ok (.goto (-50), 3) := by decide +kernel
theorem dX0_begin_56 : decode cX0_begin 56 = .ok (.return_, 1) := by decide +kernel
set_option maxRecDepth 20000 in
theorem ggX0_spread_J7_fill_53178 : GoodIn wsX0_spread wsJ7_fill_53178 := goodIn_r _ [6] (by decide +kernel) (by decide +kernel)
set_option maxRecDepth 20000 in
theorem gX0_spread_J7_fill_53178 : GoodIn wsX0_spread (va_wsS RX0 39 yJ7_fill_53178 wsJ7_fill_53178) := goodIn_app (goodIn_of _ (by decide +kernel)) ggX0_spread_J7_fill_53178
set_option maxRecDepth 20000 in
theorem ggX0_spread_X1_mayLeave : GoodIn wsX0_spread wsX1_mayLeave := goodIn_r _ [10, 11, 29, 30, 31, 32, 33, 34, 35, 36, 37, 38, 39, 40, 41, 42] (by decide +kernel) (by decide +kernel)
set_option maxRecDepth 20000 in
theorem gX0_spread_X1_mayLeave_n45 : GoodIn wsX0_spread (wsX1_mayLeave) := ggX0_spread_X1_mayLeave
set_option maxRecDepth 20000 in
theorem ggX0_spread_X0_spreadOnce : GoodIn wsX0_spread wsX0_spreadOnce := goodIn_r _ [16, 1, 17, 18, 19, 15, 20, 2, 21, 22, 23, 24, 25, 29, 30, 31, 32, 33, 34, 35, 36, 37, 38, 39, 40, 41, 42, 26, 27, 28] (by decide +kernel) (by decide +kernel)
set_option maxRecDepth 20000 in
theorem gX0_spread_X0_spreadOnce : GoodIn wsX0_spread (wsV RX0 49 RX0 yX0_spreadOnce wsX0_spreadOnce) := goodIn_app (goodIn_of _ (by decide +kernel)) ggX0_spread_X0_spreadOnce
theorem dX0_spread_0 : decode cX0_spread 0 = .ok (.aload_n 0, 1) := by decide +kernel
theorem dX0_spread_1 : decode cX0_spread 1 = .ok (.getfield 15, 3) := by decide +kernel
theorem dX0_spread_4 : decode cX0_spread 4 = .ok (.ldc 38, 2) := by decide +kernel
theorem dX0_spread_6 : decode cX0_spread 6 = .ok (.invokestatic 39, 3) := by decide +kernel
theorem dX0_spread_9 : decode cX0_spread 9 = .ok (.iconst 2, 1) := by decide +kernel
theorem dX0_spread_10 : decode cX0_spread 10 = .ok (.iload_n 2, 1) := by decide +kernel
theorem dX0_spread_11 : decode cX0_spread 11 = .ok (.imul, 1) := by decide +kernel
theorem dX0_spread_12 : decode cX0_spread 12 = .ok (.istore_n 3, 1) := by decide +kernel
theorem dX0_spread_13 : decode cX0_spread 13 = .ok (.iload_n 3, 1) := by decide +kernel
theorem dX0_spread_14 : decode cX0_spread 14 = .ok (.iconst 2, 1) := by decide +kernel
theorem dX0_spread_15 : decode cX0_spread 15 = .ok (.iload_n 2, 1) := by decide +kernel
theorem dX0_spread_16 : decode cX0_spread 16 = .ok (.imul, 1) := by decide +kernel
theorem dX0_spread_17 : decode cX0_spread 17 = .ok (.iconst 1, 1) := by decide +kernel
theorem dX0_spread_18 : decode cX0_spread 18 = .ok (.iadd, 1) := by decide +kernel
theorem dX0_spread_19 : decode cX0_spread 19 = .ok (.if_icmp .gt 24, 3) := by decide +kernel
theorem dX0_spread_22 : decode cX0_spread 22 = .ok (.aload_n 1, 1) := by decide +kernel
theorem dX0_spread_23 : decode cX0_spread 23 = .ok (.iload_n 3, 1) := by decide +kernel
theorem dX0_spread_24 : decode cX0_spread 24 = .ok (.invokevirtual 45, 3) := by decide +kernel
theorem dX0_spread_27 : decode cX0_spread 27 = .ok (.ifCond .eq 10, 3) := by decide +kernel
theorem dX0_spread_30 : decode cX0_spread 30 = .ok (.aload_n 0, 1) := by decide +kernel
theorem dX0_spread_31 : decode cX0_spread 31 = .ok (.getfield 15, 3) := by decide +kernel
theorem dX0_spread_34 : decode cX0_spread 34 = .ok (.iload_n 3, 1) := by decide +kernel
theorem dX0_spread_35 : decode cX0_spread 35 = .ok (.iconst 0, 1) := by decide +kernel
theorem dX0_spread_36 : decode cX0_spread 36 = .ok (.iastore, 1) := by decide +kernel
theorem dX0_spread_37 : decode cX0_spread 37 = .ok (.iinc 3 1, 3) := by decide +kernel
theorem dX0_spread_40 : decode cX0_spread 40 = .ok (.goto (-27), 3) := by decide +kernel
theorem dX0_spread_43 : decode cX0_spread 43 = .ok (.iconst 1, 1) := by decide +kernel
theorem dX0_spread_44 : decode cX0_spread 44 = .ok (.istore_n 3, 1) := by decide +kernel
theorem dX0_spread_45 : decode cX0_spread 45 = .ok (.iconst 0, 1) := by decide +kernel
theorem dX0_spread_46 : decode cX0_spread 46 = .ok (.istore 4, 2) := by decide +kernel
theorem dX0_spread_48 : decode cX0_spread 48 = .ok (.iload_n 3, 1) := by decide +kernel
theorem dX0_spread_49 : decode cX0_spread 49 = .ok (.ifCond .eq 22, 3) := by decide +kernel
theorem dX0_spread_52 : decode cX0_spread 52 = .ok (.iload 4, 2) := by decide +kernel
theorem dX0_spread_54 : decode cX0_spread 54 = .ok (.bipush 40, 2) := by decide +kernel
theorem dX0_spread_56 : decode cX0_spread 56 = .ok (.if_icmp .ge 15, 3) := by decide +kernel
theorem dX0_spread_59 : decode cX0_spread 59 = .ok (.aload_n 0, 1) := by decide +kernel
theorem dX0_spread_60 : decode cX0_spread 60 = .ok (.aload_n 1, 1) := by decide +kernel
theorem dX0_spread_61 : decode cX0_spread 61 = .ok (.invokevirtual 49, 3) := by decide +kernel
theorem dX0_spread_64 : decode cX0_spread 64 = .ok (.istore_n 3, 1) := by decide +kernel
theorem dX0_spread_65 : decode cX0_spread 65 = .ok (.iinc 4 1, 3) := by decide +kernel
theorem dX0_spread_68 : decode cX0_spread 68 = .ok (.goto (-20), 3) := by decide +kernel
theorem dX0_spread_71 : decode cX0_spread 71 = .ok (.return_, 1) := by decide +kernel
set_option maxRecDepth 20000 in
theorem ggX0_spreadOnce_X0_secondBehind : GoodIn wsX0_spreadOnce wsX0_secondBehind := goodIn_r _ [6, 7, 8, 9, 10, 5, 11, 1, 12, 13, 14, 15, 16, 17, 18, 19, 20, 21, 22, 23, 24, 25, 26, 27, 28, 29] (by decide +kernel) (by decide +kernel)
set_option maxRecDepth 20000 in
theorem gX0_spreadOnce_X0_secondBehind : GoodIn wsX0_spreadOnce (wsV RX0 53 RX0 yX0_secondBehind wsX0_secondBehind) := goodIn_app (goodIn_of _ (by decide +kernel)) ggX0_spreadOnce_X0_secondBehind
theorem dX0_spreadOnce_0 : decode cX0_spreadOnce 0 = .ok (.iconst 0, 1) := by decide +kernel
theorem dX0_spreadOnce_1 : decode cX0_spreadOnce 1 = .ok (.istore_n 2, 1) := by decide +kernel
theorem dX0_spreadOnce_2 : decode cX0_spreadOnce 2 = .ok (.iconst 0, 1) := by decide +kernel
theorem dX0_spreadOnce_3 : decode cX0_spreadOnce 3 = .ok (.istore_n 3, 1) := by decide +kernel
theorem dX0_spreadOnce_4 : decode cX0_spreadOnce 4 = .ok (.iload_n 3, 1) := by decide +kernel
theorem dX0_spreadOnce_5 : decode cX0_spreadOnce 5 = .ok (.aload_n 1, 1) := by decide +kernel
theorem dX0_spreadOnce_6 : decode cX0_spreadOnce 6 = .ok (.getfield 22, 3) := by decide +kernel
theorem dX0_spreadOnce_9 : decode cX0_spreadOnce 9 = .ok (.if_icmp .ge 50, 3) := by decide +kernel
theorem dX0_spreadOnce_12 : decode cX0_spreadOnce 12 = .ok (.aload_n 1, 1) := by decide +kernel
theorem dX0_spreadOnce_13 : decode cX0_spreadOnce 13 = .ok (.getfield 31, 3) := by decide +kernel
theorem dX0_spreadOnce_16 : decode cX0_spreadOnce 16 = .ok (.iload_n 3, 1) := by decide +kernel
theorem dX0_spreadOnce_17 : decode cX0_spreadOnce 17 = .ok (.iaload, 1) := by decide +kernel
theorem dX0_spreadOnce_18 : decode cX0_spreadOnce 18 = .ok (.iconst 1, 1) := by decide +kernel
theorem dX0_spreadOnce_19 : decode cX0_spreadOnce 19 = .ok (.ixor, 1) := by decide +kernel
theorem dX0_spreadOnce_20 : decode cX0_spreadOnce 20 = .ok (.istore 4, 2) := by decide +kernel
theorem dX0_spreadOnce_22 : decode cX0_spreadOnce 22 = .ok (.aload_n 0, 1) := by decide +kernel
theorem dX0_spreadOnce_23 : decode cX0_spreadOnce 23 = .ok (.aload_n 1, 1) := by decide +kernel
theorem dX0_spreadOnce_24 : decode cX0_spreadOnce 24 = .ok (.iload_n 3, 1) := by decide +kernel
theorem dX0_spreadOnce_25 : decode cX0_spreadOnce 25 = .ok (.invokevirtual 53, 3) := by decide +kernel
theorem dX0_spreadOnce_28 : decode cX0_spreadOnce 28 = .ok (.istore 5, 2) := by decide +kernel
theorem dX0_spreadOnce_30 : decode cX0_spreadOnce 30 = .ok (.iload 5, 2) := by decide +kernel
theorem dX0_spreadOnce_32 : decode cX0_spreadOnce 32 = .ok (.aload_n 0, 1) := by decide +kernel
theorem dX0_spreadOnce_33 : decode cX0_spreadOnce 33 = .ok (.getfield 15, 3) := by decide +kernel
theorem dX0_spreadOnce_36 : decode cX0_spreadOnce 36 = .ok (.iload 4, 2) := by decide +kernel
theorem dX0_spreadOnce_38 : decode cX0_spreadOnce 38 = .ok (.iaload, 1) := by decide +kernel
theorem dX0_spreadOnce_39 : decode cX0_spreadOnce 39 = .ok (.if_icmp .ge 14, 3) := by decide +kernel
theorem dX0_spreadOnce_42 : decode cX0_spreadOnce 42 = .ok (.aload_n 0, 1) := by decide +kernel
theorem dX0_spreadOnce_43 : decode cX0_spreadOnce 43 = .ok (.getfield 15, 3) := by decide +kernel
theorem dX0_spreadOnce_46 : decode cX0_spreadOnce 46 = .ok (.iload 4, 2) := by decide +kernel
theorem dX0_spreadOnce_48 : decode cX0_spreadOnce 48 = .ok (.iload 5, 2) := by decide +kernel
theorem dX0_spreadOnce_50 : decode cX0_spreadOnce 50 = .ok (.iastore, 1) := by decide +kernel
theorem dX0_spreadOnce_51 : decode cX0_spreadOnce 51 = .ok (.iconst 1, 1) := by decide +kernel
theorem dX0_spreadOnce_52 : decode cX0_spreadOnce 52 = .ok (.istore_n 2, 1) := by decide +kernel
theorem dX0_spreadOnce_53 : decode cX0_spreadOnce 53 = .ok (.iinc 3 1, 3) := by decide +kernel
theorem dX0_spreadOnce_56 : decode cX0_spreadOnce 56 = .ok (.goto (-52), 3) := by decide +kernel
theorem dX0_spreadOnce_59 : decode cX0_spreadOnce 59 = .ok (.iload_n 2, 1) := by decide +kernel
theorem dX0_spreadOnce_60 : decode cX0_spreadOnce 60 = .ok (.ireturn, 1) := by decide +kernel
theorem dX0_secondAt_0 : decode cX0_secondAt 0 = .ok (.aload_n 0, 1) := by decide +kernel
theorem dX0_secondAt_1 : decode cX0_secondAt 1 = .ok (.getfield 15, 3) := by decide +kernel
theorem dX0_secondAt_4 : decode cX0_secondAt 4 = .ok (.aload_n 1, 1) := by decide +kernel
theorem dX0_secondAt_5 : decode cX0_secondAt 5 = .ok (.getfield 57, 3) := by decide +kernel
theorem dX0_secondAt_8 : decode cX0_secondAt 8 = .ok (.iload_n 2, 1) := by decide +kernel
theorem dX0_secondAt_9 : decode cX0_secondAt 9 = .ok (.iaload, 1) := by decide +kernel
theorem dX0_secondAt_10 : decode cX0_secondAt 10 = .ok (.iaload, 1) := by decide +kernel
theorem dX0_secondAt_11 : decode cX0_secondAt 11 = .ok (.istore_n 3, 1) := by decide +kernel
theorem dX0_secondAt_12 : decode cX0_secondAt 12 = .ok (.aload_n 0, 1) := by decide +kernel
theorem dX0_secondAt_13 : decode cX0_secondAt 13 = .ok (.getfield 9, 3) := by decide +kernel
theorem dX0_secondAt_16 : decode cX0_secondAt 16 = .ok (.iload_n 2, 1) := by decide +kernel
theorem dX0_secondAt_17 : decode cX0_secondAt 17 = .ok (.baload, 1) := by decide +kernel
theorem dX0_secondAt_18 : decode cX0_secondAt 18 = .ok (.ifCond .eq 9, 3) := by decide +kernel
theorem dX0_secondAt_21 : decode cX0_secondAt 21 = .ok (.iload_n 3, 1) := by decide +kernel
theorem dX0_secondAt_22 : decode cX0_secondAt 22 = .ok (.ldc 38, 2) := by decide +kernel
theorem dX0_secondAt_24 : decode cX0_secondAt 24 = .ok (.if_icmp .ne 6, 3) := by decide +kernel
theorem dX0_secondAt_27 : decode cX0_secondAt 27 = .ok (.ldc 38, 2) := by decide +kernel
theorem dX0_secondAt_29 : decode cX0_secondAt 29 = .ok (.ireturn, 1) := by decide +kernel
theorem dX0_secondAt_30 : decode cX0_secondAt 30 = .ok (.iload_n 3, 1) := by decide +kernel
theorem dX0_secondAt_31 : decode cX0_secondAt 31 = .ok (.aload_n 1, 1) := by decide +kernel
theorem dX0_secondAt_32 : decode cX0_secondAt 32 = .ok (.getfield 60, 3) := by decide +kernel
theorem dX0_secondAt_35 : decode cX0_secondAt 35 = .ok (.iload_n 2, 1) := by decide +kernel
theorem dX0_secondAt_36 : decode cX0_secondAt 36 = .ok (.iaload, 1) := by decide +kernel
theorem dX0_secondAt_37 : decode cX0_secondAt 37 = .ok (.iadd, 1) := by decide +kernel
theorem dX0_secondAt_38 : decode cX0_secondAt 38 = .ok (.ireturn, 1) := by decide +kernel
set_option maxRecDepth 20000 in
theorem ggX0_secondBehind_X0_secondAt : GoodIn wsX0_secondBehind wsX0_secondAt := goodIn_r _ [6, 7, 8, 1, 23, 24, 25, 9, 10, 11, 12, 13, 14, 15, 16, 17, 18, 19, 20, 21, 22] (by decide +kernel) (by decide +kernel)
set_option maxRecDepth 20000 in
theorem gX0_secondBehind_X0_secondAt : GoodIn wsX0_secondBehind (wsV RX0 63 RX0 yX0_secondAt wsX0_secondAt) := goodIn_app (goodIn_of _ (by decide +kernel)) ggX0_secondBehind_X0_secondAt
theorem dX0_secondBehind_0 : decode cX0_secondBehind 0 = .ok (.aload_n 0, 1) := by decide +kernel
theorem dX0_secondBehind_1 : decode cX0_secondBehind 1 = .ok (.aload_n 1, 1) := by decide +kernel
theorem dX0_secondBehind_2 : decode cX0_secondBehind 2 = .ok (.iload_n 2, 1) := by decide +kernel
theorem dX0_secondBehind_3 : decode cX0_secondBehind 3 = .ok (.invokevirtual 63, 3) := by decide +kernel
theorem dX0_secondBehind_6 : decode cX0_secondBehind 6 = .ok (.istore_n 3, 1) := by decide +kernel
theorem dX0_secondBehind_7 : decode cX0_secondBehind 7 = .ok (.iload_n 3, 1) := by decide +kernel
theorem dX0_secondBehind_8 : decode cX0_secondBehind 8 = .ok (.ldc 38, 2) := by decide +kernel
theorem dX0_secondBehind_10 : decode cX0_secondBehind 10 = .ok (.if_icmp .ne 6, 3) := by decide +kernel
theorem dX0_secondBehind_13 : decode cX0_secondBehind 13 = .ok (.ldc 38, 2) := by decide +kernel
theorem dX0_secondBehind_15 : decode cX0_secondBehind 15 = .ok (.ireturn, 1) := by decide +kernel
theorem dX0_secondBehind_16 : decode cX0_secondBehind 16 = .ok (.iload_n 3, 1) := by decide +kernel
theorem dX0_secondBehind_17 : decode cX0_secondBehind 17 = .ok (.aload_n 1, 1) := by decide +kernel
theorem dX0_secondBehind_18 : decode cX0_secondBehind 18 = .ok (.getfield 66, 3) := by decide +kernel
theorem dX0_secondBehind_21 : decode cX0_secondBehind 21 = .ok (.aload_n 1, 1) := by decide +kernel
theorem dX0_secondBehind_22 : decode cX0_secondBehind 22 = .ok (.getfield 31, 3) := by decide +kernel
theorem dX0_secondBehind_25 : decode cX0_secondBehind 25 = .ok (.iload_n 2, 1) := by decide +kernel
theorem dX0_secondBehind_26 : decode cX0_secondBehind 26 = .ok (.iaload, 1) := by decide +kernel
theorem dX0_secondBehind_27 : decode cX0_secondBehind 27 = .ok (.iconst 2, 1) := by decide +kernel
theorem dX0_secondBehind_28 : decode cX0_secondBehind 28 = .ok (.idiv, 1) := by decide +kernel
theorem dX0_secondBehind_29 : decode cX0_secondBehind 29 = .ok (.iaload, 1) := by decide +kernel
theorem dX0_secondBehind_30 : decode cX0_secondBehind 30 = .ok (.iadd, 1) := by decide +kernel
theorem dX0_secondBehind_31 : decode cX0_secondBehind 31 = .ok (.ireturn, 1) := by decide +kernel
set_option maxRecDepth 20000 in
theorem ggX0_secondsTo_X0_lastPassage : GoodIn wsX0_secondsTo wsX0_lastPassage := goodIn_r _ [5, 6, 7, 8, 9, 4, 10, 11, 12, 13, 14, 15, 16, 17, 18, 19, 20, 21, 22, 23, 24, 25, 26, 27, 28, 29] (by decide +kernel) (by decide +kernel)
set_option maxRecDepth 20000 in
theorem gX0_secondsTo_X0_lastPassage : GoodIn wsX0_secondsTo (wsV RX0 69 RX0 yX0_lastPassage wsX0_lastPassage) := goodIn_app (goodIn_of _ (by decide +kernel)) ggX0_secondsTo_X0_lastPassage
set_option maxRecDepth 20000 in
theorem ggX0_secondsTo_X0_secondAt : GoodIn wsX0_secondsTo wsX0_secondAt := goodIn_r _ [10, 11, 12, 6, 27, 28, 29, 13, 14, 15, 16, 17, 18, 19, 20, 21, 22, 23, 24, 25, 26] (by decide +kernel) (by decide +kernel)
set_option maxRecDepth 20000 in
theorem gX0_secondsTo_X0_secondAt : GoodIn wsX0_secondsTo (wsV RX0 63 RX0 yX0_secondAt wsX0_secondAt) := goodIn_app (goodIn_of _ (by decide +kernel)) ggX0_secondsTo_X0_secondAt
theorem dX0_secondsTo_0 : decode cX0_secondsTo 0 = .ok (.iload_n 2, 1) := by decide +kernel
theorem dX0_secondsTo_1 : decode cX0_secondsTo 1 = .ok (.iload_n 3, 1) := by decide +kernel
theorem dX0_secondsTo_2 : decode cX0_secondsTo 2 = .ok (.if_icmp .ne 5, 3) := by decide +kernel
theorem dX0_secondsTo_5 : decode cX0_secondsTo 5 = .ok (.iconst 0, 1) := by decide +kernel
theorem dX0_secondsTo_6 : decode cX0_secondsTo 6 = .ok (.ireturn, 1) := by decide +kernel
theorem dX0_secondsTo_7 : decode cX0_secondsTo 7 = .ok (.aload_n 0, 1) := by decide +kernel
theorem dX0_secondsTo_8 : decode cX0_secondsTo 8 = .ok (.aload_n 1, 1) := by decide +kernel
theorem dX0_secondsTo_9 : decode cX0_secondsTo 9 = .ok (.iload_n 3, 1) := by decide +kernel
theorem dX0_secondsTo_10 : decode cX0_secondsTo 10 = .ok (.invokevirtual 69, 3) := by decide +kernel
theorem dX0_secondsTo_13 : decode cX0_secondsTo 13 = .ok (.istore 4, 2) := by decide +kernel
theorem dX0_secondsTo_15 : decode cX0_secondsTo 15 = .ok (.iload 4, 2) := by decide +kernel
theorem dX0_secondsTo_17 : decode cX0_secondsTo 17 = .ok (.iconst (-1), 1) := by decide +kernel
theorem dX0_secondsTo_18 : decode cX0_secondsTo 18 = .ok (.if_icmp .ne 7, 3) := by decide +kernel
theorem dX0_secondsTo_21 : decode cX0_secondsTo 21 = .ok (.iconst (-1), 1) := by decide +kernel
theorem dX0_secondsTo_22 : decode cX0_secondsTo 22 = .ok (.goto 10, 3) := by decide +kernel
theorem dX0_secondsTo_25 : decode cX0_secondsTo 25 = .ok (.aload_n 0, 1) := by decide +kernel
theorem dX0_secondsTo_26 : decode cX0_secondsTo 26 = .ok (.aload_n 1, 1) := by decide +kernel
theorem dX0_secondsTo_27 : decode cX0_secondsTo 27 = .ok (.iload 4, 2) := by decide +kernel
theorem dX0_secondsTo_29 : decode cX0_secondsTo 29 = .ok (.invokevirtual 63, 3) := by decide +kernel
theorem dX0_secondsTo_32 : decode cX0_secondsTo 32 = .ok (.ireturn, 1) := by decide +kernel
set_option maxRecDepth 20000 in
theorem ggX0_lastPassage_X0_secondAt : GoodIn wsX0_lastPassage wsX0_secondAt := goodIn_r _ [6, 7, 8, 1, 23, 24, 25, 9, 10, 11, 12, 13, 14, 15, 16, 17, 18, 19, 20, 21, 22] (by decide +kernel) (by decide +kernel)
set_option maxRecDepth 20000 in
theorem gX0_lastPassage_X0_secondAt : GoodIn wsX0_lastPassage (wsV RX0 63 RX0 yX0_secondAt wsX0_secondAt) := goodIn_app (goodIn_of _ (by decide +kernel)) ggX0_lastPassage_X0_secondAt
theorem dX0_lastPassage_0 : decode cX0_lastPassage 0 = .ok (.iconst (-1), 1) := by decide +kernel
theorem dX0_lastPassage_1 : decode cX0_lastPassage 1 = .ok (.istore_n 3, 1) := by decide +kernel
theorem dX0_lastPassage_2 : decode cX0_lastPassage 2 = .ok (.ldc 38, 2) := by decide +kernel
theorem dX0_lastPassage_4 : decode cX0_lastPassage 4 = .ok (.istore 4, 2) := by decide +kernel
theorem dX0_lastPassage_6 : decode cX0_lastPassage 6 = .ok (.iconst 0, 1) := by decide +kernel
theorem dX0_lastPassage_7 : decode cX0_lastPassage 7 = .ok (.istore 5, 2) := by decide +kernel
theorem dX0_lastPassage_9 : decode cX0_lastPassage 9 = .ok (.iload 5, 2) := by decide +kernel
theorem dX0_lastPassage_11 : decode cX0_lastPassage 11 = .ok (.aload_n 1, 1) := by decide +kernel
theorem dX0_lastPassage_12 : decode cX0_lastPassage 12 = .ok (.getfield 22, 3) := by decide +kernel
theorem dX0_lastPassage_15 : decode cX0_lastPassage 15 = .ok (.if_icmp .ge 45, 3) := by decide +kernel
theorem dX0_lastPassage_18 : decode cX0_lastPassage 18 = .ok (.aload_n 1, 1) := by decide +kernel
theorem dX0_lastPassage_19 : decode cX0_lastPassage 19 = .ok (.getfield 31, 3) := by decide +kernel
theorem dX0_lastPassage_22 : decode cX0_lastPassage 22 = .ok (.iload 5, 2) := by decide +kernel
theorem dX0_lastPassage_24 : decode cX0_lastPassage 24 = .ok (.iaload, 1) := by decide +kernel
theorem dX0_lastPassage_25 : decode cX0_lastPassage 25 = .ok (.iconst 2, 1) := by decide +kernel
theorem dX0_lastPassage_26 : decode cX0_lastPassage 26 = .ok (.idiv, 1) := by decide +kernel
theorem dX0_lastPassage_27 : decode cX0_lastPassage 27 = .ok (.iload_n 2, 1) := by decide +kernel
theorem dX0_lastPassage_28 : decode cX0_lastPassage 28 = .ok (.if_icmp .ne 26, 3) := by decide +kernel
theorem dX0_lastPassage_31 : decode cX0_lastPassage 31 = .ok (.aload_n 0, 1) := by decide +kernel
theorem dX0_lastPassage_32 : decode cX0_lastPassage 32 = .ok (.aload_n 1, 1) := by decide +kernel
theorem dX0_lastPassage_33 : decode cX0_lastPassage 33 = .ok (.iload 5, 2) := by decide +kernel
theorem dX0_lastPassage_35 : decode cX0_lastPassage 35 = .ok (.invokevirtual 63, 3) := by decide +kernel
theorem dX0_lastPassage_38 : decode cX0_lastPassage 38 = .ok (.istore 6, 2) := by decide +kernel
theorem dX0_lastPassage_40 : decode cX0_lastPassage 40 = .ok (.iload 6, 2) := by decide +kernel
theorem dX0_lastPassage_42 : decode cX0_lastPassage 42 = .ok (.iload 4, 2) := by decide +kernel
theorem dX0_lastPassage_44 : decode cX0_lastPassage 44 = .ok (.if_icmp .ge 10, 3) := by decide +kernel
theorem dX0_lastPassage_47 : decode cX0_lastPassage 47 = .ok (.iload 5, 2) := by decide +kernel
theorem dX0_lastPassage_49 : decode cX0_lastPassage 49 = .ok (.istore_n 3, 1) := by decide +kernel
theorem dX0_lastPassage_50 : decode cX0_lastPassage 50 = .ok (.iload 6, 2) := by decide +kernel
theorem dX0_lastPassage_52 : decode cX0_lastPassage 52 = .ok (.istore 4, 2) := by decide +kernel
theorem dX0_lastPassage_54 : decode cX0_lastPassage 54 = .ok (.iinc 5 1, 3) := by decide +kernel
theorem dX0_lastPassage_57 : decode cX0_lastPassage 57 = .ok (.goto (-48), 3) := by decide +kernel
theorem dX0_lastPassage_60 : decode cX0_lastPassage 60 = .ok (.iload_n 3, 1) := by decide +kernel
theorem dX0_lastPassage_61 : decode cX0_lastPassage 61 = .ok (.ireturn, 1) := by decide +kernel
set_option maxRecDepth 20000 in
theorem ggX0_passageBefore_X0_secondBehind : GoodIn wsX0_passageBefore wsX0_secondBehind := goodIn_r _ [6, 7, 8, 9, 10, 5, 11, 1, 12, 16, 17, 18, 19, 20, 21, 22, 23, 24, 25, 26, 27, 28, 29, 13, 14, 15] (by decide +kernel) (by decide +kernel)
set_option maxRecDepth 20000 in
theorem gX0_passageBefore_X0_secondBehind : GoodIn wsX0_passageBefore (wsV RX0 53 RX0 yX0_secondBehind wsX0_secondBehind) := goodIn_app (goodIn_of _ (by decide +kernel)) ggX0_passageBefore_X0_secondBehind
theorem dX0_passageBefore_0 : decode cX0_passageBefore 0 = .ok (.aload_n 0, 1) := by decide +kernel
theorem dX0_passageBefore_1 : decode cX0_passageBefore 1 = .ok (.getfield 15, 3) := by decide +kernel
theorem dX0_passageBefore_4 : decode cX0_passageBefore 4 = .ok (.iload_n 2, 1) := by decide +kernel
theorem dX0_passageBefore_5 : decode cX0_passageBefore 5 = .ok (.iaload, 1) := by decide +kernel
theorem dX0_passageBefore_6 : decode cX0_passageBefore 6 = .ok (.ifCond .ne 5, 3) := by decide +kernel
theorem dX0_passageBefore_9 : decode cX0_passageBefore 9 = .ok (.iconst (-1), 1) := by decide +kernel
theorem dX0_passageBefore_10 : decode cX0_passageBefore 10 = .ok (.ireturn, 1) := by decide +kernel
theorem dX0_passageBefore_11 : decode cX0_passageBefore 11 = .ok (.iconst 0, 1) := by decide +kernel
theorem dX0_passageBefore_12 : decode cX0_passageBefore 12 = .ok (.istore_n 3, 1) := by decide +kernel
theorem dX0_passageBefore_13 : decode cX0_passageBefore 13 = .ok (.iload_n 3, 1) := by decide +kernel
theorem dX0_passageBefore_14 : decode cX0_passageBefore 14 = .ok (.aload_n 1, 1) := by decide +kernel
theorem dX0_passageBefore_15 : decode cX0_passageBefore 15 = .ok (.getfield 22, 3) := by decide +kernel
theorem dX0_passageBefore_18 : decode cX0_passageBefore 18 = .ok (.if_icmp .ge 38, 3) := by decide +kernel
theorem dX0_passageBefore_21 : decode cX0_passageBefore 21 = .ok (.aload_n 1, 1) := by decide +kernel
theorem dX0_passageBefore_22 : decode cX0_passageBefore 22 = .ok (.getfield 31, 3) := by decide +kernel
theorem dX0_passageBefore_25 : decode cX0_passageBefore 25 = .ok (.iload_n 3, 1) := by decide +kernel
theorem dX0_passageBefore_26 : decode cX0_passageBefore 26 = .ok (.iaload, 1) := by decide +kernel
theorem dX0_passageBefore_27 : decode cX0_passageBefore 27 = .ok (.iload_n 2, 1) := by decide +kernel
theorem dX0_passageBefore_28 : decode cX0_passageBefore 28 = .ok (.iconst 1, 1) := by decide +kernel
theorem dX0_passageBefore_29 : decode cX0_passageBefore 29 = .ok (.ixor, 1) := by decide +kernel
theorem dX0_passageBefore_30 : decode cX0_passageBefore 30 = .ok (.if_icmp .ne 20, 3) := by decide +kernel
theorem dX0_passageBefore_33 : decode cX0_passageBefore 33 = .ok (.aload_n 0, 1) := by decide +kernel
theorem dX0_passageBefore_34 : decode cX0_passageBefore 34 = .ok (.aload_n 1, 1) := by decide +kernel
theorem dX0_passageBefore_35 : decode cX0_passageBefore 35 = .ok (.iload_n 3, 1) := by decide +kernel
theorem dX0_passageBefore_36 : decode cX0_passageBefore 36 = .ok (.invokevirtual 53, 3) := by decide +kernel
theorem dX0_passageBefore_39 : decode cX0_passageBefore 39 = .ok (.aload_n 0, 1) := by decide +kernel
theorem dX0_passageBefore_40 : decode cX0_passageBefore 40 = .ok (.getfield 15, 3) := by decide +kernel
theorem dX0_passageBefore_43 : decode cX0_passageBefore 43 = .ok (.iload_n 2, 1) := by decide +kernel
theorem dX0_passageBefore_44 : decode cX0_passageBefore 44 = .ok (.iaload, 1) := by decide +kernel
theorem dX0_passageBefore_45 : decode cX0_passageBefore 45 = .ok (.if_icmp .ne 5, 3) := by decide +kernel
theorem dX0_passageBefore_48 : decode cX0_passageBefore 48 = .ok (.iload_n 3, 1) := by decide +kernel
theorem dX0_passageBefore_49 : decode cX0_passageBefore 49 = .ok (.ireturn, 1) := by decide +kernel
theorem dX0_passageBefore_50 : decode cX0_passageBefore 50 = .ok (.iinc 3 1, 3) := by decide +kernel
theorem dX0_passageBefore_53 : decode cX0_passageBefore 53 = .ok (.goto (-40), 3) := by decide +kernel
theorem dX0_passageBefore_56 : decode cX0_passageBefore 56 = .ok (.iconst (-1), 1) := by decide +kernel
theorem dX0_passageBefore_57 : decode cX0_passageBefore 57 = .ok (.ireturn, 1) := by decide +kernel
set_option maxRecDepth 20000 in
theorem ggX0_trace_X0_lastPassage : GoodIn wsX0_trace wsX0_lastPassage := goodIn_r _ [5, 6, 7, 8, 9, 4, 10, 11, 12, 21, 22, 23, 24, 25, 26, 27, 28, 29, 30, 31, 32, 33, 34, 35, 36, 37] (by decide +kernel) (by decide +kernel)
set_option maxRecDepth 20000 in
theorem gX0_trace_X0_lastPassage : GoodIn wsX0_trace (wsV RX0 69 RX0 yX0_lastPassage wsX0_lastPassage) := goodIn_app (goodIn_of _ (by decide +kernel)) ggX0_trace_X0_lastPassage
set_option maxRecDepth 20000 in
theorem ggX0_trace_X0_passageBefore : GoodIn wsX0_trace wsX0_passageBefore := goodIn_r _ [16, 11, 17, 18, 19, 4, 20, 6, 7, 8, 9, 10, 12, 35, 36, 37, 21, 22, 23, 24, 25, 26, 27, 28, 29, 30, 31, 32, 33, 34] (by decide +kernel) (by decide +kernel)
set_option maxRecDepth 20000 in
theorem gX0_trace_X0_passageBefore : GoodIn wsX0_trace (wsV RX0 72 RX0 yX0_passageBefore wsX0_passageBefore) := goodIn_app (goodIn_of _ (by decide +kernel)) ggX0_trace_X0_passageBefore
theorem dX0_trace_0 : decode cX0_trace 0 = .ok (.iload_n 2, 1) := by decide +kernel
theorem dX0_trace_1 : decode cX0_trace 1 = .ok (.iload_n 3, 1) := by decide +kernel
theorem dX0_trace_2 : decode cX0_trace 2 = .ok (.if_icmp .ne 10, 3) := by decide +kernel
theorem dX0_trace_5 : decode cX0_trace 5 = .ok (.aload 4, 2) := by decide +kernel
theorem dX0_trace_7 : decode cX0_trace 7 = .ok (.iconst 0, 1) := by decide +kernel
theorem dX0_trace_8 : decode cX0_trace 8 = .ok (.iload_n 3, 1) := by decide +kernel
theorem dX0_trace_9 : decode cX0_trace 9 = .ok (.iastore, 1) := by decide +kernel
theorem dX0_trace_10 : decode cX0_trace 10 = .ok (.iconst 1, 1) := by decide +kernel
theorem dX0_trace_11 : decode cX0_trace 11 = .ok (.ireturn, 1) := by decide +kernel
theorem dX0_trace_12 : decode cX0_trace 12 = .ok (.aload_n 0, 1) := by decide +kernel
theorem dX0_trace_13 : decode cX0_trace 13 = .ok (.aload_n 1, 1) := by decide +kernel
theorem dX0_trace_14 : decode cX0_trace 14 = .ok (.iload_n 3, 1) := by decide +kernel
theorem dX0_trace_15 : decode cX0_trace 15 = .ok (.invokevirtual 69, 3) := by decide +kernel
theorem dX0_trace_18 : decode cX0_trace 18 = .ok (.istore 5, 2) := by decide +kernel
theorem dX0_trace_20 : decode cX0_trace 20 = .ok (.iload 5, 2) := by decide +kernel
theorem dX0_trace_22 : decode cX0_trace 22 = .ok (.iconst (-1), 1) := by decide +kernel
theorem dX0_trace_23 : decode cX0_trace 23 = .ok (.if_icmp .ne 5, 3) := by decide +kernel
theorem dX0_trace_26 : decode cX0_trace 26 = .ok (.iconst 0, 1) := by decide +kernel
theorem dX0_trace_27 : decode cX0_trace 27 = .ok (.ireturn, 1) := by decide +kernel
theorem dX0_trace_28 : decode cX0_trace 28 = .ok (.aload 4, 2) := by decide +kernel
theorem dX0_trace_30 : decode cX0_trace 30 = .ok (.iconst 0, 1) := by decide +kernel
theorem dX0_trace_31 : decode cX0_trace 31 = .ok (.iload_n 3, 1) := by decide +kernel
theorem dX0_trace_32 : decode cX0_trace 32 = .ok (.iastore, 1) := by decide +kernel
theorem dX0_trace_33 : decode cX0_trace 33 = .ok (.iconst 1, 1) := by decide +kernel
theorem dX0_trace_34 : decode cX0_trace 34 = .ok (.istore 6, 2) := by decide +kernel
theorem dX0_trace_36 : decode cX0_trace 36 = .ok (.iload 5, 2) := by decide +kernel
theorem dX0_trace_38 : decode cX0_trace 38 = .ok (.iconst (-1), 1) := by decide +kernel
theorem dX0_trace_39 : decode cX0_trace 39 = .ok (.if_icmp .eq 44, 3) := by decide +kernel
theorem dX0_trace_42 : decode cX0_trace 42 = .ok (.iload 6, 2) := by decide +kernel
theorem dX0_trace_44 : decode cX0_trace 44 = .ok (.aload 4, 2) := by decide +kernel
theorem dX0_trace_46 : decode cX0_trace 46 = .ok (.arraylength, 1) := by decide +kernel
theorem dX0_trace_47 : decode cX0_trace 47 = .ok (.if_icmp .ge 36, 3) := by decide +kernel
theorem dX0_trace_50 : decode cX0_trace 50 = .ok (.aload_n 1, 1) := by decide +kernel
theorem dX0_trace_51 : decode cX0_trace 51 = .ok (.getfield 57, 3) := by decide +kernel
theorem dX0_trace_54 : decode cX0_trace 54 = .ok (.iload 5, 2) := by decide +kernel
theorem dX0_trace_56 : decode cX0_trace 56 = .ok (.iaload, 1) := by decide +kernel
theorem dX0_trace_57 : decode cX0_trace 57 = .ok (.istore 7, 2) := by decide +kernel
theorem dX0_trace_59 : decode cX0_trace 59 = .ok (.aload 4, 2) := by decide +kernel
theorem dX0_trace_61 : decode cX0_trace 61 = .ok (.iload 6, 2) := by decide +kernel
theorem dX0_trace_63 : decode cX0_trace 63 = .ok (.iload 7, 2) := by decide +kernel
theorem dX0_trace_65 : decode cX0_trace 65 = .ok (.iconst 2, 1) := by decide +kernel
theorem dX0_trace_66 : decode cX0_trace 66 = .ok (.idiv, 1) := by decide +kernel
theorem dX0_trace_67 : decode cX0_trace 67 = .ok (.iastore, 1) := by decide +kernel
theorem dX0_trace_68 : decode cX0_trace 68 = .ok (.iinc 6 1, 3) := by decide +kernel
theorem dX0_trace_71 : decode cX0_trace 71 = .ok (.aload_n 0, 1) := by decide +kernel
theorem dX0_trace_72 : decode cX0_trace 72 = .ok (.aload_n 1, 1) := by decide +kernel
theorem dX0_trace_73 : decode cX0_trace 73 = .ok (.iload 7, 2) := by decide +kernel
theorem dX0_trace_75 : decode cX0_trace 75 = .ok (.invokevirtual 72, 3) := by decide +kernel
theorem dX0_trace_78 : decode cX0_trace 78 = .ok (.istore 5, 2) := by decide +kernel
theorem dX0_trace_80 : decode cX0_trace 80 = .ok (.goto (-44), 3) := by decide +kernel
theorem dX0_trace_83 : decode cX0_trace 83 = .ok (.iload 6, 2) := by decide +kernel
theorem dX0_trace_85 : decode cX0_trace 85 = .ok (.ireturn, 1) := by decide +kernel
set_option maxRecDepth 20000 in
theorem ggX0_waysBetween_X1_mayLeave : GoodIn wsX0_waysBetween wsX1_mayLeave := goodIn_r _ [5, 6, 13, 14, 15, 16, 17, 18, 19, 20, 21, 22, 23, 24, 25, 26] (by decide +kernel) (by decide +kernel)
set_option maxRecDepth 20000 in
theorem gX0_waysBetween_X1_mayLeave_n45 : GoodIn wsX0_waysBetween (wsX1_mayLeave) := ggX0_waysBetween_X1_mayLeave
set_option maxRecDepth 20000 in
theorem ggX0_waysBetween_X0_waysOn : GoodIn wsX0_waysBetween wsX0_waysOn := goodIn_r _ [11, 12, 1, 7, 8, 9, 10, 13, 14, 15, 16, 17, 18, 19, 20, 21, 22, 23, 24, 25, 26, 27, 28, 29] (by decide +kernel) (by decide +kernel)
set_option maxRecDepth 20000 in
theorem gX0_waysBetween_X0_waysOn : GoodIn wsX0_waysBetween (wsV RX0 78 RX0 yX0_waysOn wsX0_waysOn) := goodIn_app (goodIn_of _ (by decide +kernel)) ggX0_waysBetween_X0_waysOn
theorem dX0_waysBetween_0 : decode cX0_waysBetween 0 = .ok (.iconst 0, 1) := by decide +kernel
theorem dX0_waysBetween_1 : decode cX0_waysBetween 1 = .ok (.istore 5, 2) := by decide +kernel
theorem dX0_waysBetween_3 : decode cX0_waysBetween 3 = .ok (.iload 5, 2) := by decide +kernel
theorem dX0_waysBetween_5 : decode cX0_waysBetween 5 = .ok (.aload_n 1, 1) := by decide +kernel
theorem dX0_waysBetween_6 : decode cX0_waysBetween 6 = .ok (.getfield 75, 3) := by decide +kernel
theorem dX0_waysBetween_9 : decode cX0_waysBetween 9 = .ok (.if_icmp .ge 27, 3) := by decide +kernel
theorem dX0_waysBetween_12 : decode cX0_waysBetween 12 = .ok (.aload_n 0, 1) := by decide +kernel
theorem dX0_waysBetween_13 : decode cX0_waysBetween 13 = .ok (.getfield 19, 3) := by decide +kernel
theorem dX0_waysBetween_16 : decode cX0_waysBetween 16 = .ok (.iload 5, 2) := by decide +kernel
theorem dX0_waysBetween_18 : decode cX0_waysBetween 18 = .ok (.iload 5, 2) := by decide +kernel
theorem dX0_waysBetween_20 : decode cX0_waysBetween 20 = .ok (.iload_n 2, 1) := by decide +kernel
theorem dX0_waysBetween_21 : decode cX0_waysBetween 21 = .ok (.if_icmp .ne 7, 3) := by decide +kernel
theorem dX0_waysBetween_24 : decode cX0_waysBetween 24 = .ok (.iconst 1, 1) := by decide +kernel
theorem dX0_waysBetween_25 : decode cX0_waysBetween 25 = .ok (.goto 4, 3) := by decide +kernel
theorem dX0_waysBetween_28 : decode cX0_waysBetween 28 = .ok (.iconst 0, 1) := by decide +kernel
theorem dX0_waysBetween_29 : decode cX0_waysBetween 29 = .ok (.bastore, 1) := by decide +kernel
theorem dX0_waysBetween_30 : decode cX0_waysBetween 30 = .ok (.iinc 5 1, 3) := by decide +kernel
theorem dX0_waysBetween_33 : decode cX0_waysBetween 33 = .ok (.goto (-30), 3) := by decide +kernel
theorem dX0_waysBetween_36 : decode cX0_waysBetween 36 = .ok (.iconst 0, 1) := by decide +kernel
theorem dX0_waysBetween_37 : decode cX0_waysBetween 37 = .ok (.istore 5, 2) := by decide +kernel
theorem dX0_waysBetween_39 : decode cX0_waysBetween 39 = .ok (.iconst 2, 1) := by decide +kernel
theorem dX0_waysBetween_40 : decode cX0_waysBetween 40 = .ok (.iload_n 2, 1) := by decide +kernel
theorem dX0_waysBetween_41 : decode cX0_waysBetween 41 = .ok (.imul, 1) := by decide +kernel
theorem dX0_waysBetween_42 : decode cX0_waysBetween 42 = .ok (.istore 6, 2) := by decide +kernel
theorem dX0_waysBetween_44 : decode cX0_waysBetween 44 = .ok (.iload 6, 2) := by decide +kernel
theorem dX0_waysBetween_46 : decode cX0_waysBetween 46 = .ok (.iconst 2, 1) := by decide +kernel
theorem dX0_waysBetween_47 : decode cX0_waysBetween 47 = .ok (.iload_n 2, 1) := by decide +kernel
theorem dX0_waysBetween_48 : decode cX0_waysBetween 48 = .ok (.imul, 1) := by decide +kernel
theorem dX0_waysBetween_49 : decode cX0_waysBetween 49 = .ok (.iconst 1, 1) := by decide +kernel
theorem dX0_waysBetween_50 : decode cX0_waysBetween 50 = .ok (.iadd, 1) := by decide +kernel
theorem dX0_waysBetween_51 : decode cX0_waysBetween 51 = .ok (.if_icmp .gt 33, 3) := by decide +kernel
theorem dX0_waysBetween_54 : decode cX0_waysBetween 54 = .ok (.aload_n 1, 1) := by decide +kernel
theorem dX0_waysBetween_55 : decode cX0_waysBetween 55 = .ok (.iload 6, 2) := by decide +kernel
theorem dX0_waysBetween_57 : decode cX0_waysBetween 57 = .ok (.invokevirtual 45, 3) := by decide +kernel
theorem dX0_waysBetween_60 : decode cX0_waysBetween 60 = .ok (.ifCond .eq 18, 3) := by decide +kernel
theorem dX0_waysBetween_63 : decode cX0_waysBetween 63 = .ok (.iload 5, 2) := by decide +kernel
theorem dX0_waysBetween_65 : decode cX0_waysBetween 65 = .ok (.aload_n 0, 1) := by decide +kernel
theorem dX0_waysBetween_66 : decode cX0_waysBetween 66 = .ok (.aload_n 1, 1) := by decide +kernel
theorem dX0_waysBetween_67 : decode cX0_waysBetween 67 = .ok (.iload 6, 2) := by decide +kernel
theorem dX0_waysBetween_69 : decode cX0_waysBetween 69 = .ok (.iload_n 3, 1) := by decide +kernel
theorem dX0_waysBetween_70 : decode cX0_waysBetween 70 = .ok (.iload 4, 2) := by decide +kernel
theorem dX0_waysBetween_72 : decode cX0_waysBetween 72 = .ok (.invokevirtual 78, 3) := by decide +kernel
theorem dX0_waysBetween_75 : decode cX0_waysBetween 75 = .ok (.iadd, 1) := by decide +kernel
theorem dX0_waysBetween_76 : decode cX0_waysBetween 76 = .ok (.istore 5, 2) := by decide +kernel
theorem dX0_waysBetween_78 : decode cX0_waysBetween 78 = .ok (.iinc 6 1, 3) := by decide +kernel
theorem dX0_waysBetween_81 : decode cX0_waysBetween 81 = .ok (.goto (-37), 3) := by decide +kernel
theorem dX0_waysBetween_84 : decode cX0_waysBetween 84 = .ok (.iload 5, 2) := by decide +kernel
theorem dX0_waysBetween_86 : decode cX0_waysBetween 86 = .ok (.ireturn, 1) := by decide +kernel
set_option maxRecDepth 20000 in
theorem ggX0_waysOn_X0_waysOn : GoodIn wsX0_waysOn wsX0_waysOn := goodIn_r _ [0, 1, 2, 3, 4, 5, 6, 7, 8, 9, 10, 11, 12, 13, 14, 15, 16, 17, 18, 19, 20, 21, 22, 23] (by decide +kernel) (by decide +kernel)
set_option maxRecDepth 20000 in
theorem gX0_waysOn_X0_waysOn : GoodIn wsX0_waysOn (wsV RX0 78 RX0 yX0_waysOn wsX0_waysOn) := goodIn_app (goodIn_of _ (by decide +kernel)) ggX0_waysOn_X0_waysOn
theorem dX0_waysOn_0 : decode cX0_waysOn 0 = .ok (.iconst 0, 1) := by decide +kernel
theorem dX0_waysOn_1 : decode cX0_waysOn 1 = .ok (.istore 5, 2) := by decide +kernel
theorem dX0_waysOn_3 : decode cX0_waysOn 3 = .ok (.iconst 0, 1) := by decide +kernel
theorem dX0_waysOn_4 : decode cX0_waysOn 4 = .ok (.istore 6, 2) := by decide +kernel
theorem dX0_waysOn_6 : decode cX0_waysOn 6 = .ok (.iload 6, 2) := by decide +kernel
theorem dX0_waysOn_8 : decode cX0_waysOn 8 = .ok (.aload_n 1, 1) := by decide +kernel
theorem dX0_waysOn_9 : decode cX0_waysOn 9 = .ok (.getfield 82, 3) := by decide +kernel
theorem dX0_waysOn_12 : decode cX0_waysOn 12 = .ok (.iload_n 2, 1) := by decide +kernel
theorem dX0_waysOn_13 : decode cX0_waysOn 13 = .ok (.iaload, 1) := by decide +kernel
theorem dX0_waysOn_14 : decode cX0_waysOn 14 = .ok (.if_icmp .ge 110, 3) := by decide +kernel
theorem dX0_waysOn_17 : decode cX0_waysOn 17 = .ok (.aload_n 1, 1) := by decide +kernel
theorem dX0_waysOn_18 : decode cX0_waysOn 18 = .ok (.getfield 85, 3) := by decide +kernel
theorem dX0_waysOn_21 : decode cX0_waysOn 21 = .ok (.iload_n 2, 1) := by decide +kernel
theorem dX0_waysOn_22 : decode cX0_waysOn 22 = .ok (.aaload, 1) := by decide +kernel
theorem dX0_waysOn_23 : decode cX0_waysOn 23 = .ok (.iload 6, 2) := by decide +kernel
theorem dX0_waysOn_25 : decode cX0_waysOn 25 = .ok (.iaload, 1) := by decide +kernel
theorem dX0_waysOn_26 : decode cX0_waysOn 26 = .ok (.istore 7, 2) := by decide +kernel
theorem dX0_waysOn_28 : decode cX0_waysOn 28 = .ok (.aload_n 1, 1) := by decide +kernel
theorem dX0_waysOn_29 : decode cX0_waysOn 29 = .ok (.getfield 31, 3) := by decide +kernel
theorem dX0_waysOn_32 : decode cX0_waysOn 32 = .ok (.iload 7, 2) := by decide +kernel
theorem dX0_waysOn_34 : decode cX0_waysOn 34 = .ok (.iaload, 1) := by decide +kernel
theorem dX0_waysOn_35 : decode cX0_waysOn 35 = .ok (.istore 8, 2) := by decide +kernel
theorem dX0_waysOn_37 : decode cX0_waysOn 37 = .ok (.iload 8, 2) := by decide +kernel
theorem dX0_waysOn_39 : decode cX0_waysOn 39 = .ok (.iconst 2, 1) := by decide +kernel
theorem dX0_waysOn_40 : decode cX0_waysOn 40 = .ok (.idiv, 1) := by decide +kernel
theorem dX0_waysOn_41 : decode cX0_waysOn 41 = .ok (.istore 9, 2) := by decide +kernel
theorem dX0_waysOn_43 : decode cX0_waysOn 43 = .ok (.aload_n 0, 1) := by decide +kernel
theorem dX0_waysOn_44 : decode cX0_waysOn 44 = .ok (.getfield 9, 3) := by decide +kernel
theorem dX0_waysOn_47 : decode cX0_waysOn 47 = .ok (.iload 7, 2) := by decide +kernel
theorem dX0_waysOn_49 : decode cX0_waysOn 49 = .ok (.baload, 1) := by decide +kernel
theorem dX0_waysOn_50 : decode cX0_waysOn 50 = .ok (.ifCond .eq 68, 3) := by decide +kernel
theorem dX0_waysOn_53 : decode cX0_waysOn 53 = .ok (.aload_n 0, 1) := by decide +kernel
theorem dX0_waysOn_54 : decode cX0_waysOn 54 = .ok (.getfield 19, 3) := by decide +kernel
theorem dX0_waysOn_57 : decode cX0_waysOn 57 = .ok (.iload 9, 2) := by decide +kernel
theorem dX0_waysOn_59 : decode cX0_waysOn 59 = .ok (.baload, 1) := by decide +kernel
theorem dX0_waysOn_60 : decode cX0_waysOn 60 = .ok (.ifCond .eq 6, 3) := by decide +kernel
theorem dX0_waysOn_63 : decode cX0_waysOn 63 = .ok (.goto 55, 3) := by decide +kernel
theorem dX0_waysOn_66 : decode cX0_waysOn 66 = .ok (.iload 9, 2) := by decide +kernel
theorem dX0_waysOn_68 : decode cX0_waysOn 68 = .ok (.iload_n 3, 1) := by decide +kernel
theorem dX0_waysOn_69 : decode cX0_waysOn 69 = .ok (.if_icmp .ne 9, 3) := by decide +kernel
theorem dX0_waysOn_72 : decode cX0_waysOn 72 = .ok (.iinc 5 1, 3) := by decide +kernel
theorem dX0_waysOn_75 : decode cX0_waysOn 75 = .ok (.goto 43, 3) := by decide +kernel
theorem dX0_waysOn_78 : decode cX0_waysOn 78 = .ok (.iload 4, 2) := by decide +kernel
theorem dX0_waysOn_80 : decode cX0_waysOn 80 = .ok (.ifCond .le 38, 3) := by decide +kernel
theorem dX0_waysOn_83 : decode cX0_waysOn 83 = .ok (.aload_n 0, 1) := by decide +kernel
theorem dX0_waysOn_84 : decode cX0_waysOn 84 = .ok (.getfield 19, 3) := by decide +kernel
theorem dX0_waysOn_87 : decode cX0_waysOn 87 = .ok (.iload 9, 2) := by decide +kernel
theorem dX0_waysOn_89 : decode cX0_waysOn 89 = .ok (.iconst 1, 1) := by decide +kernel
theorem dX0_waysOn_90 : decode cX0_waysOn 90 = .ok (.bastore, 1) := by decide +kernel
theorem dX0_waysOn_91 : decode cX0_waysOn 91 = .ok (.iload 5, 2) := by decide +kernel
theorem dX0_waysOn_93 : decode cX0_waysOn 93 = .ok (.aload_n 0, 1) := by decide +kernel
theorem dX0_waysOn_94 : decode cX0_waysOn 94 = .ok (.aload_n 1, 1) := by decide +kernel
theorem dX0_waysOn_95 : decode cX0_waysOn 95 = .ok (.iload 8, 2) := by decide +kernel
theorem dX0_waysOn_97 : decode cX0_waysOn 97 = .ok (.iconst 1, 1) := by decide +kernel
theorem dX0_waysOn_98 : decode cX0_waysOn 98 = .ok (.ixor, 1) := by decide +kernel
theorem dX0_waysOn_99 : decode cX0_waysOn 99 = .ok (.iload_n 3, 1) := by decide +kernel
theorem dX0_waysOn_100 : decode cX0_waysOn 100 = .ok (.iload 4, 2) := by decide +kernel
theorem dX0_waysOn_102 : decode cX0_waysOn 102 = .ok (.iconst 1, 1) := by decide +kernel
theorem dX0_waysOn_103 : decode cX0_waysOn 103 = .ok (.isub, 1) := by decide +kernel
theorem dX0_waysOn_104 : decode cX0_waysOn 104 = .ok (.invokevirtual 78, 3) := by decide +kernel
theorem dX0_waysOn_107 : decode cX0_waysOn 107 = .ok (.iadd, 1) := by decide +kernel
theorem dX0_waysOn_108 : decode cX0_waysOn 108 = .ok (.istore 5, 2) := by decide +kernel
theorem dX0_waysOn_110 : decode cX0_waysOn 110 = .ok (.aload_n 0, 1) := by decide +kernel
theorem dX0_waysOn_111 : decode cX0_waysOn 111 = .ok (.getfield 19, 3) := by decide +kernel
theorem dX0_waysOn_114 : decode cX0_waysOn 114 = .ok (.iload 9, 2) := by decide +kernel
theorem dX0_waysOn_116 : decode cX0_waysOn 116 = .ok (.iconst 0, 1) := by decide +kernel
theorem dX0_waysOn_117 : decode cX0_waysOn 117 = .ok (.bastore, 1) := by decide +kernel
theorem dX0_waysOn_118 : decode cX0_waysOn 118 = .ok (.iinc 6 1, 3) := by decide +kernel
theorem dX0_waysOn_121 : decode cX0_waysOn 121 = .ok (.goto (-115), 3) := by decide +kernel
theorem dX0_waysOn_124 : decode cX0_waysOn 124 = .ok (.iload 5, 2) := by decide +kernel
theorem dX0_waysOn_126 : decode cX0_waysOn 126 = .ok (.ireturn, 1) := by decide +kernel
theorem dX1_init_0 : decode cX1_init 0 = .ok (.aload_n 0, 1) := by decide +kernel
theorem dX1_init_1 : decode cX1_init 1 = .ok (.invokespecial 3, 3) := by decide +kernel
theorem dX1_init_4 : decode cX1_init 4 = .ok (.aload_n 0, 1) := by decide +kernel
theorem dX1_init_5 : decode cX1_init 5 = .ok (.bipush 20, 2) := by decide +kernel
theorem dX1_init_7 : decode cX1_init 7 = .ok (.newarray .int, 2) := by decide +kernel
theorem dX1_init_9 : decode cX1_init 9 = .ok (.putfield 9, 3) := by decide +kernel
theorem dX1_init_12 : decode cX1_init 12 = .ok (.aload_n 0, 1) := by decide +kernel
theorem dX1_init_13 : decode cX1_init 13 = .ok (.bipush 20, 2) := by decide +kernel
theorem dX1_init_15 : decode cX1_init 15 = .ok (.newarray .int, 2) := by decide +kernel
theorem dX1_init_17 : decode cX1_init 17 = .ok (.putfield 15, 3) := by decide +kernel
theorem dX1_init_20 : decode cX1_init 20 = .ok (.aload_n 0, 1) := by decide +kernel
theorem dX1_init_21 : decode cX1_init 21 = .ok (.bipush 20, 2) := by decide +kernel
theorem dX1_init_23 : decode cX1_init 23 = .ok (.newarray .int, 2) := by decide +kernel
theorem dX1_init_25 : decode cX1_init 25 = .ok (.putfield 18, 3) := by decide +kernel
theorem dX1_init_28 : decode cX1_init 28 = .ok (.aload_n 0, 1) := by decide +kernel
theorem dX1_init_29 : decode cX1_init 29 = .ok (.bipush 20, 2) := by decide +kernel
theorem dX1_init_31 : decode cX1_init 31 = .ok (.newarray .boolean, 2) := by decide +kernel
theorem dX1_init_33 : decode cX1_init 33 = .ok (.putfield 21, 3) := by decide +kernel
theorem dX1_init_36 : decode cX1_init 36 = .ok (.aload_n 0, 1) := by decide +kernel
theorem dX1_init_37 : decode cX1_init 37 = .ok (.bipush 20, 2) := by decide +kernel
theorem dX1_init_39 : decode cX1_init 39 = .ok (.newarray .boolean, 2) := by decide +kernel
theorem dX1_init_41 : decode cX1_init 41 = .ok (.putfield 25, 3) := by decide +kernel
theorem dX1_init_44 : decode cX1_init 44 = .ok (.aload_n 0, 1) := by decide +kernel
theorem dX1_init_45 : decode cX1_init 45 = .ok (.bipush 20, 2) := by decide +kernel
theorem dX1_init_47 : decode cX1_init 47 = .ok (.newarray .int, 2) := by decide +kernel
theorem dX1_init_49 : decode cX1_init 49 = .ok (.putfield 28, 3) := by decide +kernel
theorem dX1_init_52 : decode cX1_init 52 = .ok (.aload_n 0, 1) := by decide +kernel
theorem dX1_init_53 : decode cX1_init 53 = .ok (.bipush 80, 2) := by decide +kernel
theorem dX1_init_55 : decode cX1_init 55 = .ok (.newarray .int, 2) := by decide +kernel
theorem dX1_init_57 : decode cX1_init 57 = .ok (.putfield 31, 3) := by decide +kernel
theorem dX1_init_60 : decode cX1_init 60 = .ok (.aload_n 0, 1) := by decide +kernel
theorem dX1_init_61 : decode cX1_init 61 = .ok (.bipush 80, 2) := by decide +kernel
theorem dX1_init_63 : decode cX1_init 63 = .ok (.newarray .int, 2) := by decide +kernel
theorem dX1_init_65 : decode cX1_init 65 = .ok (.putfield 34, 3) := by decide +kernel
theorem dX1_init_68 : decode cX1_init 68 = .ok (.aload_n 0, 1) := by decide +kernel
theorem dX1_init_69 : decode cX1_init 69 = .ok (.bipush 80, 2) := by decide +kernel
theorem dX1_init_71 : decode cX1_init 71 = .ok (.newarray .int, 2) := by decide +kernel
theorem dX1_init_73 : decode cX1_init 73 = .ok (.putfield 37, 3) := by decide +kernel
theorem dX1_init_76 : decode cX1_init 76 = .ok (.aload_n 0, 1) := by decide +kernel
theorem dX1_init_77 : decode cX1_init 77 = .ok (.bipush 80, 2) := by decide +kernel
theorem dX1_init_79 : decode cX1_init 79 = .ok (.newarray .boolean, 2) := by decide +kernel
theorem dX1_init_81 : decode cX1_init 81 = .ok (.putfield 40, 3) := by decide +kernel
theorem dX1_init_84 : decode cX1_init 84 = .ok (.aload_n 0, 1) := by decide +kernel
theorem dX1_init_85 : decode cX1_init 85 = .ok (.bipush 40, 2) := by decide +kernel
theorem dX1_init_87 : decode cX1_init 87 = .ok (.bipush 40, 2) := by decide +kernel
theorem dX1_init_89 : decode cX1_init 89 = .ok (.multianewarray 43 2, 4) := by decide +kernel
theorem dX1_init_93 : decode cX1_init 93 = .ok (.putfield 45, 3) := by decide +kernel
theorem dX1_init_96 : decode cX1_init 96 = .ok (.aload_n 0, 1) := by decide +kernel
theorem dX1_init_97 : decode cX1_init 97 = .ok (.bipush 40, 2) := by decide +kernel
theorem dX1_init_99 : decode cX1_init 99 = .ok (.newarray .int, 2) := by decide +kernel
theorem dX1_init_101 : decode cX1_init 101 = .ok (.putfield 48, 3) := by decide +kernel
theorem dX1_init_104 : decode cX1_init 104 = .ok (.return_, 1) := by decide +kernel
theorem dX1_addPiece_0 : decode cX1_addPiece 0 = .ok (.aload_n 0, 1) := by decide +kernel
theorem dX1_addPiece_1 : decode cX1_addPiece 1 = .ok (.getfield 51, 3) := by decide +kernel
theorem dX1_addPiece_4 : decode cX1_addPiece 4 = .ok (.istore 4, 2) := by decide +kernel
theorem dX1_addPiece_6 : decode cX1_addPiece 6 = .ok (.aload_n 0, 1) := by decide +kernel
theorem dX1_addPiece_7 : decode cX1_addPiece 7 = .ok (.getfield 9, 3) := by decide +kernel
theorem dX1_addPiece_10 : decode cX1_addPiece 10 = .ok (.iload 4, 2) := by decide +kernel
theorem dX1_addPiece_12 : decode cX1_addPiece 12 = .ok (.iload_n 1, 1) := by decide +kernel
theorem dX1_addPiece_13 : decode cX1_addPiece 13 = .ok (.iastore, 1) := by decide +kernel
theorem dX1_addPiece_14 : decode cX1_addPiece 14 = .ok (.aload_n 0, 1) := by decide +kernel
theorem dX1_addPiece_15 : decode cX1_addPiece 15 = .ok (.getfield 15, 3) := by decide +kernel
theorem dX1_addPiece_18 : decode cX1_addPiece 18 = .ok (.iload 4, 2) := by decide +kernel
theorem dX1_addPiece_20 : decode cX1_addPiece 20 = .ok (.iload_n 2, 1) := by decide +kernel
theorem dX1_addPiece_21 : decode cX1_addPiece 21 = .ok (.iastore, 1) := by decide +kernel
theorem dX1_addPiece_22 : decode cX1_addPiece 22 = .ok (.aload_n 0, 1) := by decide +kernel
theorem dX1_addPiece_23 : decode cX1_addPiece 23 = .ok (.getfield 18, 3) := by decide +kernel
theorem dX1_addPiece_26 : decode cX1_addPiece 26 = .ok (.iload 4, 2) := by decide +kernel
theorem dX1_addPiece_28 : decode cX1_addPiece 28 = .ok (.bipush 100, 2) := by decide +kernel
theorem dX1_addPiece_30 : decode cX1_addPiece 30 = .ok (.iastore, 1) := by decide +kernel
theorem dX1_addPiece_31 : decode cX1_addPiece 31 = .ok (.aload_n 0, 1) := by decide +kernel
theorem dX1_addPiece_32 : decode cX1_addPiece 32 = .ok (.getfield 21, 3) := by decide +kernel
theorem dX1_addPiece_35 : decode cX1_addPiece 35 = .ok (.iload 4, 2) := by decide +kernel
theorem dX1_addPiece_37 : decode cX1_addPiece 37 = .ok (.iload_n 3, 1) := by decide +kernel
theorem dX1_addPiece_38 : decode cX1_addPiece 38 = .ok (.bastore, 1) := by decide +kernel
theorem dX1_addPiece_39 : decode cX1_addPiece 39 = .ok (.aload_n 0, 1) := by decide +kernel
theorem dX1_addPiece_40 : decode cX1_addPiece 40 = .ok (.dup, 1) := by decide +kernel
theorem dX1_addPiece_41 : decode cX1_addPiece 41 = .ok (.getfield 51, 3) := by decide +kernel
theorem dX1_addPiece_44 : decode cX1_addPiece 44 = .ok (.iconst 1, 1) := by decide +kernel
theorem dX1_addPiece_45 : decode cX1_addPiece 45 = .ok (.iadd, 1) := by decide +kernel
theorem dX1_addPiece_46 : decode cX1_addPiece 46 = .ok (.putfield 51, 3) := by decide +kernel
theorem dX1_addPiece_49 : decode cX1_addPiece 49 = .ok (.iload 4, 2) := by decide +kernel
theorem dX1_addPiece_51 : decode cX1_addPiece 51 = .ok (.ireturn, 1) := by decide +kernel
set_option maxRecDepth 20000 in
theorem ggX1_addJoin_X1_addPassage : GoodIn wsX1_addJoin wsX1_addPassage := goodIn_r _ [6, 7, 1, 8, 9, 10, 11, 12, 13, 14, 15, 16, 17, 18, 19, 20, 21, 22, 23, 24, 25] (by decide +kernel) (by decide +kernel)
set_option maxRecDepth 20000 in
theorem gX1_addJoin_X1_addPassage : GoodIn wsX1_addJoin (wsV RX1 55 RX1 yX1_addPassage wsX1_addPassage) := goodIn_app (goodIn_of _ (by decide +kernel)) ggX1_addJoin_X1_addPassage
theorem dX1_addJoin_0 : decode cX1_addJoin 0 = .ok (.aload_n 0, 1) := by decide +kernel
theorem dX1_addJoin_1 : decode cX1_addJoin 1 = .ok (.iload_n 1, 1) := by decide +kernel
theorem dX1_addJoin_2 : decode cX1_addJoin 2 = .ok (.iload_n 2, 1) := by decide +kernel
theorem dX1_addJoin_3 : decode cX1_addJoin 3 = .ok (.iload_n 3, 1) := by decide +kernel
theorem dX1_addJoin_4 : decode cX1_addJoin 4 = .ok (.invokevirtual 55, 3) := by decide +kernel
theorem dX1_addJoin_7 : decode cX1_addJoin 7 = .ok (.aload_n 0, 1) := by decide +kernel
theorem dX1_addJoin_8 : decode cX1_addJoin 8 = .ok (.iload_n 2, 1) := by decide +kernel
theorem dX1_addJoin_9 : decode cX1_addJoin 9 = .ok (.iload_n 1, 1) := by decide +kernel
theorem dX1_addJoin_10 : decode cX1_addJoin 10 = .ok (.iload_n 3, 1) := by decide +kernel
theorem dX1_addJoin_11 : decode cX1_addJoin 11 = .ok (.invokevirtual 55, 3) := by decide +kernel
theorem dX1_addJoin_14 : decode cX1_addJoin 14 = .ok (.aload_n 0, 1) := by decide +kernel
theorem dX1_addJoin_15 : decode cX1_addJoin 15 = .ok (.getfield 59, 3) := by decide +kernel
theorem dX1_addJoin_18 : decode cX1_addJoin 18 = .ok (.iconst 2, 1) := by decide +kernel
theorem dX1_addJoin_19 : decode cX1_addJoin 19 = .ok (.idiv, 1) := by decide +kernel
theorem dX1_addJoin_20 : decode cX1_addJoin 20 = .ok (.iconst 1, 1) := by decide +kernel
theorem dX1_addJoin_21 : decode cX1_addJoin 21 = .ok (.isub, 1) := by decide +kernel
theorem dX1_addJoin_22 : decode cX1_addJoin 22 = .ok (.ireturn, 1) := by decide +kernel
theorem dX1_addPassage_0 : decode cX1_addPassage 0 = .ok (.aload_n 0, 1) := by decide +kernel
theorem dX1_addPassage_1 : decode cX1_addPassage 1 = .ok (.getfield 31, 3) := by decide +kernel
theorem dX1_addPassage_4 : decode cX1_addPassage 4 = .ok (.aload_n 0, 1) := by decide +kernel
theorem dX1_addPassage_5 : decode cX1_addPassage 5 = .ok (.getfield 59, 3) := by decide +kernel
theorem dX1_addPassage_8 : decode cX1_addPassage 8 = .ok (.iload_n 1, 1) := by decide +kernel
theorem dX1_addPassage_9 : decode cX1_addPassage 9 = .ok (.iastore, 1) := by decide +kernel
theorem dX1_addPassage_10 : decode cX1_addPassage 10 = .ok (.aload_n 0, 1) := by decide +kernel
theorem dX1_addPassage_11 : decode cX1_addPassage 11 = .ok (.getfield 34, 3) := by decide +kernel
theorem dX1_addPassage_14 : decode cX1_addPassage 14 = .ok (.aload_n 0, 1) := by decide +kernel
theorem dX1_addPassage_15 : decode cX1_addPassage 15 = .ok (.getfield 59, 3) := by decide +kernel
theorem dX1_addPassage_18 : decode cX1_addPassage 18 = .ok (.iload_n 2, 1) := by decide +kernel
theorem dX1_addPassage_19 : decode cX1_addPassage 19 = .ok (.iastore, 1) := by decide +kernel
theorem dX1_addPassage_20 : decode cX1_addPassage 20 = .ok (.aload_n 0, 1) := by decide +kernel
theorem dX1_addPassage_21 : decode cX1_addPassage 21 = .ok (.getfield 37, 3) := by decide +kernel
theorem dX1_addPassage_24 : decode cX1_addPassage 24 = .ok (.aload_n 0, 1) := by decide +kernel
theorem dX1_addPassage_25 : decode cX1_addPassage 25 = .ok (.getfield 59, 3) := by decide +kernel
theorem dX1_addPassage_28 : decode cX1_addPassage 28 = .ok (.iload_n 3, 1) := by decide +kernel
theorem dX1_addPassage_29 : decode cX1_addPassage 29 = .ok (.iastore, 1) := by decide +kernel
theorem dX1_addPassage_30 : decode cX1_addPassage 30 = .ok (.aload_n 0, 1) := by decide +kernel
theorem dX1_addPassage_31 : decode cX1_addPassage 31 = .ok (.getfield 45, 3) := by decide +kernel
theorem dX1_addPassage_34 : decode cX1_addPassage 34 = .ok (.iload_n 1, 1) := by decide +kernel
theorem dX1_addPassage_35 : decode cX1_addPassage 35 = .ok (.aaload, 1) := by decide +kernel
theorem dX1_addPassage_36 : decode cX1_addPassage 36 = .ok (.aload_n 0, 1) := by decide +kernel
theorem dX1_addPassage_37 : decode cX1_addPassage 37 = .ok (.getfield 48, 3) := by decide +kernel
theorem dX1_addPassage_40 : decode cX1_addPassage 40 = .ok (.iload_n 1, 1) := by decide +kernel
theorem dX1_addPassage_41 : decode cX1_addPassage 41 = .ok (.iaload, 1) := by decide +kernel
theorem dX1_addPassage_42 : decode cX1_addPassage 42 = .ok (.aload_n 0, 1) := by decide +kernel
theorem dX1_addPassage_43 : decode cX1_addPassage 43 = .ok (.getfield 59, 3) := by decide +kernel
theorem dX1_addPassage_46 : decode cX1_addPassage 46 = .ok (.iastore, 1) := by decide +kernel
theorem dX1_addPassage_47 : decode cX1_addPassage 47 = .ok (.aload_n 0, 1) := by decide +kernel
theorem dX1_addPassage_48 : decode cX1_addPassage 48 = .ok (.getfield 48, 3) := by decide +kernel
theorem dX1_addPassage_51 : decode cX1_addPassage 51 = .ok (.iload_n 1, 1) := by decide +kernel
theorem dX1_addPassage_52 : decode cX1_addPassage 52 = .ok (.dup2, 1) := by decide +kernel
theorem dX1_addPassage_53 : decode cX1_addPassage 53 = .ok (.iaload, 1) := by decide +kernel
theorem dX1_addPassage_54 : decode cX1_addPassage 54 = .ok (.iconst 1, 1) := by decide +kernel
theorem dX1_addPassage_55 : decode cX1_addPassage 55 = .ok (.iadd, 1) := by decide +kernel
theorem dX1_addPassage_56 : decode cX1_addPassage 56 = .ok (.iastore, 1) := by decide +kernel
theorem dX1_addPassage_57 : decode cX1_addPassage 57 = .ok (.aload_n 0, 1) := by decide +kernel
theorem dX1_addPassage_58 : decode cX1_addPassage 58 = .ok (.dup, 1) := by decide +kernel
theorem dX1_addPassage_59 : decode cX1_addPassage 59 = .ok (.getfield 59, 3) := by decide +kernel
theorem dX1_addPassage_62 : decode cX1_addPassage 62 = .ok (.iconst 1, 1) := by decide +kernel
theorem dX1_addPassage_63 : decode cX1_addPassage 63 = .ok (.iadd, 1) := by decide +kernel
theorem dX1_addPassage_64 : decode cX1_addPassage 64 = .ok (.putfield 59, 3) := by decide +kernel
theorem dX1_addPassage_67 : decode cX1_addPassage 67 = .ok (.return_, 1) := by decide +kernel
theorem dX1_barredAmong_0 : decode cX1_barredAmong 0 = .ok (.iconst 0, 1) := by decide +kernel
theorem dX1_barredAmong_1 : decode cX1_barredAmong 1 = .ok (.istore_n 3, 1) := by decide +kernel
theorem dX1_barredAmong_2 : decode cX1_barredAmong 2 = .ok (.iload_n 1, 1) := by decide +kernel
theorem dX1_barredAmong_3 : decode cX1_barredAmong 3 = .ok (.istore 4, 2) := by decide +kernel
theorem dX1_barredAmong_5 : decode cX1_barredAmong 5 = .ok (.iload 4, 2) := by decide +kernel
theorem dX1_barredAmong_7 : decode cX1_barredAmong 7 = .ok (.iload_n 2, 1) := by decide +kernel
theorem dX1_barredAmong_8 : decode cX1_barredAmong 8 = .ok (.if_icmp .ge 22, 3) := by decide +kernel
theorem dX1_barredAmong_11 : decode cX1_barredAmong 11 = .ok (.aload_n 0, 1) := by decide +kernel
theorem dX1_barredAmong_12 : decode cX1_barredAmong 12 = .ok (.getfield 40, 3) := by decide +kernel
theorem dX1_barredAmong_15 : decode cX1_barredAmong 15 = .ok (.iload 4, 2) := by decide +kernel
theorem dX1_barredAmong_17 : decode cX1_barredAmong 17 = .ok (.baload, 1) := by decide +kernel
theorem dX1_barredAmong_18 : decode cX1_barredAmong 18 = .ok (.ifCond .eq 6, 3) := by decide +kernel
theorem dX1_barredAmong_21 : decode cX1_barredAmong 21 = .ok (.iinc 3 1, 3) := by decide +kernel
theorem dX1_barredAmong_24 : decode cX1_barredAmong 24 = .ok (.iinc 4 1, 3) := by decide +kernel
theorem dX1_barredAmong_27 : decode cX1_barredAmong 27 = .ok (.goto (-22), 3) := by decide +kernel
theorem dX1_barredAmong_30 : decode cX1_barredAmong 30 = .ok (.iload_n 3, 1) := by decide +kernel
theorem dX1_barredAmong_31 : decode cX1_barredAmong 31 = .ok (.ireturn, 1) := by decide +kernel
set_option maxRecDepth 20000 in
theorem ggX1_setZone_J6_bitCount_0f7a4 : GoodIn wsX1_setZone wsJ6_bitCount_0f7a4 := goodIn_r _ [5, 6, 7, 8] (by decide +kernel) (by decide +kernel)
set_option maxRecDepth 20000 in
theorem gX1_setZone_J6_bitCount_0f7a4 : GoodIn wsX1_setZone (va_wsS RX1 62 yJ6_bitCount_0f7a4 wsJ6_bitCount_0f7a4) := goodIn_app (goodIn_of _ (by decide +kernel)) ggX1_setZone_J6_bitCount_0f7a4
theorem dX1_setZone_0 : decode cX1_setZone 0 = .ok (.iconst 1, 1) := by decide +kernel
theorem dX1_setZone_1 : decode cX1_setZone 1 = .ok (.iload_n 2, 1) := by decide +kernel
theorem dX1_setZone_2 : decode cX1_setZone 2 = .ok (.ishl, 1) := by decide +kernel
theorem dX1_setZone_3 : decode cX1_setZone 3 = .ok (.istore 4, 2) := by decide +kernel
theorem dX1_setZone_5 : decode cX1_setZone 5 = .ok (.iload_n 3, 1) := by decide +kernel
theorem dX1_setZone_6 : decode cX1_setZone 6 = .ok (.ifCond .eq 17, 3) := by decide +kernel
theorem dX1_setZone_9 : decode cX1_setZone 9 = .ok (.aload_n 0, 1) := by decide +kernel
theorem dX1_setZone_10 : decode cX1_setZone 10 = .ok (.getfield 28, 3) := by decide +kernel
theorem dX1_setZone_13 : decode cX1_setZone 13 = .ok (.iload_n 1, 1) := by decide +kernel
theorem dX1_setZone_14 : decode cX1_setZone 14 = .ok (.dup2, 1) := by decide +kernel
theorem dX1_setZone_15 : decode cX1_setZone 15 = .ok (.iaload, 1) := by decide +kernel
theorem dX1_setZone_16 : decode cX1_setZone 16 = .ok (.iload 4, 2) := by decide +kernel
theorem dX1_setZone_18 : decode cX1_setZone 18 = .ok (.ior, 1) := by decide +kernel
theorem dX1_setZone_19 : decode cX1_setZone 19 = .ok (.iastore, 1) := by decide +kernel
theorem dX1_setZone_20 : decode cX1_setZone 20 = .ok (.goto 16, 3) := by decide +kernel
theorem dX1_setZone_23 : decode cX1_setZone 23 = .ok (.aload_n 0, 1) := by decide +kernel
theorem dX1_setZone_24 : decode cX1_setZone 24 = .ok (.getfield 28, 3) := by decide +kernel
theorem dX1_setZone_27 : decode cX1_setZone 27 = .ok (.iload_n 1, 1) := by decide +kernel
theorem dX1_setZone_28 : decode cX1_setZone 28 = .ok (.dup2, 1) := by decide +kernel
theorem dX1_setZone_29 : decode cX1_setZone 29 = .ok (.iaload, 1) := by decide +kernel
theorem dX1_setZone_30 : decode cX1_setZone 30 = .ok (.iload 4, 2) := by decide +kernel
theorem dX1_setZone_32 : decode cX1_setZone 32 = .ok (.iconst (-1), 1) := by decide +kernel
theorem dX1_setZone_33 : decode cX1_setZone 33 = .ok (.ixor, 1) := by decide +kernel
theorem dX1_setZone_34 : decode cX1_setZone 34 = .ok (.iand, 1) := by decide +kernel
theorem dX1_setZone_35 : decode cX1_setZone 35 = .ok (.iastore, 1) := by decide +kernel
theorem dX1_setZone_36 : decode cX1_setZone 36 = .ok (.aload_n 0, 1) := by decide +kernel
theorem dX1_setZone_37 : decode cX1_setZone 37 = .ok (.getfield 28, 3) := by decide +kernel
theorem dX1_setZone_40 : decode cX1_setZone 40 = .ok (.iload_n 1, 1) := by decide +kernel
theorem dX1_setZone_41 : decode cX1_setZone 41 = .ok (.iaload, 1) := by decide +kernel
theorem dX1_setZone_42 : decode cX1_setZone 42 = .ok (.invokestatic 62, 3) := by decide +kernel
theorem dX1_setZone_45 : decode cX1_setZone 45 = .ok (.ireturn, 1) := by decide +kernel
theorem dX1_shutPieces_0 : decode cX1_shutPieces 0 = .ok (.iconst 0, 1) := by decide +kernel
theorem dX1_shutPieces_1 : decode cX1_shutPieces 1 = .ok (.istore_n 1, 1) := by decide +kernel
theorem dX1_shutPieces_2 : decode cX1_shutPieces 2 = .ok (.iconst 0, 1) := by decide +kernel
theorem dX1_shutPieces_3 : decode cX1_shutPieces 3 = .ok (.istore_n 2, 1) := by decide +kernel
theorem dX1_shutPieces_4 : decode cX1_shutPieces 4 = .ok (.iload_n 2, 1) := by decide +kernel
theorem dX1_shutPieces_5 : decode cX1_shutPieces 5 = .ok (.aload_n 0, 1) := by decide +kernel
theorem dX1_shutPieces_6 : decode cX1_shutPieces 6 = .ok (.getfield 51, 3) := by decide +kernel
theorem dX1_shutPieces_9 : decode cX1_shutPieces 9 = .ok (.if_icmp .ge 21, 3) := by decide +kernel
