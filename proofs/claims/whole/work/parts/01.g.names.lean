theorem dX3_secondsTo_115 : decode cX3_secondsTo 115 = .ok (.iload 8, 2) := by decide +kernel
theorem dX3_secondsTo_117 : decode cX3_secondsTo 117 = .ok (.goto 5, 3) := by decide +kernel
theorem dX3_secondsTo_120 : decode cX3_secondsTo 120 = .ok (.iload 5, 2) := by decide +kernel
theorem dX3_secondsTo_122 : decode cX3_secondsTo 122 = .ok (.istore 5, 2) := by decide +kernel
theorem dX3_secondsTo_124 : decode cX3_secondsTo 124 = .ok (.iinc 7 1, 3) := by decide +kernel
theorem dX3_secondsTo_127 : decode cX3_secondsTo 127 = .ok (.goto (-102), 3) := by decide +kernel
theorem dX3_secondsTo_130 : decode cX3_secondsTo 130 = .ok (.iinc 6 1, 3) := by decide +kernel
theorem dX3_secondsTo_133 : decode cX3_secondsTo 133 = .ok (.goto (-120), 3) := by decide +kernel
theorem dX3_secondsTo_136 : decode cX3_secondsTo 136 = .ok (.iload 5, 2) := by decide +kernel
theorem dX3_secondsTo_138 : decode cX3_secondsTo 138 = .ok (.ireturn, 1) := by decide +kernel
set_option maxRecDepth 20000 in
theorem ggX3_lastEnd_X3_to : GoodIn wsX3_lastEnd wsX3_to := goodIn_r _ [8, 9, 10, 29, 30, 31, 32, 33, 34, 35, 36, 37, 38, 39, 40, 41, 42, 43, 44, 45, 46, 47, 48, 49, 50, 51, 52] (by decide +kernel) (by decide +kernel)
set_option maxRecDepth 20000 in
theorem gX3_lastEnd_X3_to : GoodIn wsX3_lastEnd (wsV RX3 95 RX3 yX3_to wsX3_to) := goodIn_app (goodIn_of _ (by decide +kernel)) ggX3_lastEnd_X3_to
set_option maxRecDepth 20000 in
theorem ggX3_lastEnd_X3_from : GoodIn wsX3_lastEnd wsX3_from := goodIn_r _ [14, 10, 9, 29, 30, 31, 32, 33, 34, 35, 36, 37, 38, 39, 40, 41, 42, 43, 44, 45, 46, 47, 48, 49, 50, 51, 52] (by decide +kernel) (by decide +kernel)
set_option maxRecDepth 20000 in
theorem gX3_lastEnd_X3_from : GoodIn wsX3_lastEnd (wsV RX3 106 RX3 yX3_from wsX3_from) := goodIn_app (goodIn_of _ (by decide +kernel)) ggX3_lastEnd_X3_from
set_option maxRecDepth 20000 in
theorem ggX3_lastEnd_X3_mayGo : GoodIn wsX3_lastEnd wsX3_mayGo := goodIn_r _ [18, 19, 4, 5, 6, 7, 8, 9, 10, 20, 21, 22, 23, 24, 25, 26, 27, 28, 29, 30, 31, 32, 33, 34, 35, 36, 37, 38, 39, 40, 41, 42, 43, 44, 45, 46, 47, 48, 49, 50, 51, 52] (by decide +kernel) (by decide +kernel)
set_option maxRecDepth 20000 in
theorem gX3_lastEnd_X3_mayGo : GoodIn wsX3_lastEnd (wsV RX3 109 RX3 yX3_mayGo wsX3_mayGo) := goodIn_app (goodIn_of _ (by decide +kernel)) ggX3_lastEnd_X3_mayGo
theorem dX3_lastEnd_0 : decode cX3_lastEnd 0 = .ok (.iconst 0, 1) := by decide +kernel
theorem dX3_lastEnd_1 : decode cX3_lastEnd 1 = .ok (.istore 5, 2) := by decide +kernel
theorem dX3_lastEnd_3 : decode cX3_lastEnd 3 = .ok (.iload 5, 2) := by decide +kernel
theorem dX3_lastEnd_5 : decode cX3_lastEnd 5 = .ok (.aload_n 0, 1) := by decide +kernel
theorem dX3_lastEnd_6 : decode cX3_lastEnd 6 = .ok (.getfield 73, 3) := by decide +kernel
theorem dX3_lastEnd_9 : decode cX3_lastEnd 9 = .ok (.if_icmp .ge 103, 3) := by decide +kernel
theorem dX3_lastEnd_12 : decode cX3_lastEnd 12 = .ok (.iconst 0, 1) := by decide +kernel
theorem dX3_lastEnd_13 : decode cX3_lastEnd 13 = .ok (.istore 6, 2) := by decide +kernel
theorem dX3_lastEnd_15 : decode cX3_lastEnd 15 = .ok (.iload 6, 2) := by decide +kernel
theorem dX3_lastEnd_17 : decode cX3_lastEnd 17 = .ok (.iconst 2, 1) := by decide +kernel
theorem dX3_lastEnd_18 : decode cX3_lastEnd 18 = .ok (.if_icmp .ge 88, 3) := by decide +kernel
theorem dX3_lastEnd_21 : decode cX3_lastEnd 21 = .ok (.aload_n 0, 1) := by decide +kernel
theorem dX3_lastEnd_22 : decode cX3_lastEnd 22 = .ok (.iload 5, 2) := by decide +kernel
theorem dX3_lastEnd_24 : decode cX3_lastEnd 24 = .ok (.iload 6, 2) := by decide +kernel
theorem dX3_lastEnd_26 : decode cX3_lastEnd 26 = .ok (.invokevirtual 95, 3) := by decide +kernel
theorem dX3_lastEnd_29 : decode cX3_lastEnd 29 = .ok (.iconst 2, 1) := by decide +kernel
theorem dX3_lastEnd_30 : decode cX3_lastEnd 30 = .ok (.idiv, 1) := by decide +kernel
theorem dX3_lastEnd_31 : decode cX3_lastEnd 31 = .ok (.iload_n 2, 1) := by decide +kernel
theorem dX3_lastEnd_32 : decode cX3_lastEnd 32 = .ok (.if_icmp .ne 68, 3) := by decide +kernel
theorem dX3_lastEnd_35 : decode cX3_lastEnd 35 = .ok (.aload_n 0, 1) := by decide +kernel
theorem dX3_lastEnd_36 : decode cX3_lastEnd 36 = .ok (.getfield 50, 3) := by decide +kernel
theorem dX3_lastEnd_39 : decode cX3_lastEnd 39 = .ok (.aload_n 0, 1) := by decide +kernel
theorem dX3_lastEnd_40 : decode cX3_lastEnd 40 = .ok (.iload 5, 2) := by decide +kernel
theorem dX3_lastEnd_42 : decode cX3_lastEnd 42 = .ok (.iload 6, 2) := by decide +kernel
theorem dX3_lastEnd_44 : decode cX3_lastEnd 44 = .ok (.invokevirtual 106, 3) := by decide +kernel
theorem dX3_lastEnd_47 : decode cX3_lastEnd 47 = .ok (.iaload, 1) := by decide +kernel
theorem dX3_lastEnd_48 : decode cX3_lastEnd 48 = .ok (.iconst (-1), 1) := by decide +kernel
theorem dX3_lastEnd_49 : decode cX3_lastEnd 49 = .ok (.if_icmp .eq 51, 3) := by decide +kernel
theorem dX3_lastEnd_52 : decode cX3_lastEnd 52 = .ok (.aload_n 0, 1) := by decide +kernel
theorem dX3_lastEnd_53 : decode cX3_lastEnd 53 = .ok (.iload_n 1, 1) := by decide +kernel
theorem dX3_lastEnd_54 : decode cX3_lastEnd 54 = .ok (.iload 5, 2) := by decide +kernel
theorem dX3_lastEnd_56 : decode cX3_lastEnd 56 = .ok (.iload 6, 2) := by decide +kernel
theorem dX3_lastEnd_58 : decode cX3_lastEnd 58 = .ok (.iload 4, 2) := by decide +kernel
theorem dX3_lastEnd_60 : decode cX3_lastEnd 60 = .ok (.invokevirtual 109, 3) := by decide +kernel
theorem dX3_lastEnd_63 : decode cX3_lastEnd 63 = .ok (.ifCond .eq 37, 3) := by decide +kernel
theorem dX3_lastEnd_66 : decode cX3_lastEnd 66 = .ok (.aload_n 0, 1) := by decide +kernel
theorem dX3_lastEnd_67 : decode cX3_lastEnd 67 = .ok (.getfield 50, 3) := by decide +kernel
theorem dX3_lastEnd_70 : decode cX3_lastEnd 70 = .ok (.aload_n 0, 1) := by decide +kernel
theorem dX3_lastEnd_71 : decode cX3_lastEnd 71 = .ok (.iload 5, 2) := by decide +kernel
theorem dX3_lastEnd_73 : decode cX3_lastEnd 73 = .ok (.iload 6, 2) := by decide +kernel
theorem dX3_lastEnd_75 : decode cX3_lastEnd 75 = .ok (.invokevirtual 106, 3) := by decide +kernel
theorem dX3_lastEnd_78 : decode cX3_lastEnd 78 = .ok (.iaload, 1) := by decide +kernel
theorem dX3_lastEnd_79 : decode cX3_lastEnd 79 = .ok (.aload_n 0, 1) := by decide +kernel
theorem dX3_lastEnd_80 : decode cX3_lastEnd 80 = .ok (.getfield 35, 3) := by decide +kernel
theorem dX3_lastEnd_83 : decode cX3_lastEnd 83 = .ok (.iload 5, 2) := by decide +kernel
theorem dX3_lastEnd_85 : decode cX3_lastEnd 85 = .ok (.iaload, 1) := by decide +kernel
theorem dX3_lastEnd_86 : decode cX3_lastEnd 86 = .ok (.iadd, 1) := by decide +kernel
theorem dX3_lastEnd_87 : decode cX3_lastEnd 87 = .ok (.iload_n 3, 1) := by decide +kernel
theorem dX3_lastEnd_88 : decode cX3_lastEnd 88 = .ok (.if_icmp .ne 12, 3) := by decide +kernel
theorem dX3_lastEnd_91 : decode cX3_lastEnd 91 = .ok (.aload_n 0, 1) := by decide +kernel
theorem dX3_lastEnd_92 : decode cX3_lastEnd 92 = .ok (.iload 5, 2) := by decide +kernel
theorem dX3_lastEnd_94 : decode cX3_lastEnd 94 = .ok (.iload 6, 2) := by decide +kernel
theorem dX3_lastEnd_96 : decode cX3_lastEnd 96 = .ok (.invokevirtual 106, 3) := by decide +kernel
theorem dX3_lastEnd_99 : decode cX3_lastEnd 99 = .ok (.ireturn, 1) := by decide +kernel
theorem dX3_lastEnd_100 : decode cX3_lastEnd 100 = .ok (.iinc 6 1, 3) := by decide +kernel
theorem dX3_lastEnd_103 : decode cX3_lastEnd 103 = .ok (.goto (-88), 3) := by decide +kernel
theorem dX3_lastEnd_106 : decode cX3_lastEnd 106 = .ok (.iinc 5 1, 3) := by decide +kernel
theorem dX3_lastEnd_109 : decode cX3_lastEnd 109 = .ok (.goto (-106), 3) := by decide +kernel
theorem dX3_lastEnd_112 : decode cX3_lastEnd 112 = .ok (.iconst (-1), 1) := by decide +kernel
theorem dX3_lastEnd_113 : decode cX3_lastEnd 113 = .ok (.ireturn, 1) := by decide +kernel
set_option maxRecDepth 20000 in
theorem ggX3_before_X3_to : GoodIn wsX3_before wsX3_to := goodIn_r _ [7, 8, 9, 34, 35, 36, 37, 38, 39, 40, 41, 42, 43, 44, 45, 46, 47, 48, 49, 50, 51, 52, 53, 54, 55, 56, 57] (by decide +kernel) (by decide +kernel)
set_option maxRecDepth 20000 in
theorem gX3_before_X3_to : GoodIn wsX3_before (wsV RX3 95 RX3 yX3_to wsX3_to) := goodIn_app (goodIn_of _ (by decide +kernel)) ggX3_before_X3_to
set_option maxRecDepth 20000 in
theorem ggX3_before_X3_through : GoodIn wsX3_before wsX3_through := goodIn_r _ [13, 2, 14, 15, 16, 17, 18, 6, 19, 9, 8, 20, 21, 22, 23, 24, 3, 4, 5, 7, 25, 26, 27, 28, 29, 30, 31, 32, 33, 34, 35, 36, 37, 38, 39, 40, 41, 42, 43, 44, 45, 46, 47, 48, 49, 50, 51, 52, 53, 54, 55, 56, 57] (by decide +kernel) (by decide +kernel)
set_option maxRecDepth 20000 in
theorem gX3_before_X3_through : GoodIn wsX3_before (wsV RX3 112 RX3 yX3_through wsX3_through) := goodIn_app (goodIn_of _ (by decide +kernel)) ggX3_before_X3_through
set_option maxRecDepth 20000 in
theorem ggX3_before_X3_from : GoodIn wsX3_before wsX3_from := goodIn_r _ [19, 9, 8, 34, 35, 36, 37, 38, 39, 40, 41, 42, 43, 44, 45, 46, 47, 48, 49, 50, 51, 52, 53, 54, 55, 56, 57] (by decide +kernel) (by decide +kernel)
set_option maxRecDepth 20000 in
theorem gX3_before_X3_from : GoodIn wsX3_before (wsV RX3 106 RX3 yX3_from wsX3_from) := goodIn_app (goodIn_of _ (by decide +kernel)) ggX3_before_X3_from
theorem dX3_before_0 : decode cX3_before 0 = .ok (.iconst 0, 1) := by decide +kernel
theorem dX3_before_1 : decode cX3_before 1 = .ok (.istore 4, 2) := by decide +kernel
theorem dX3_before_3 : decode cX3_before 3 = .ok (.iload 4, 2) := by decide +kernel
theorem dX3_before_5 : decode cX3_before 5 = .ok (.aload_n 0, 1) := by decide +kernel
theorem dX3_before_6 : decode cX3_before 6 = .ok (.getfield 73, 3) := by decide +kernel
theorem dX3_before_9 : decode cX3_before 9 = .ok (.if_icmp .ge 66, 3) := by decide +kernel
theorem dX3_before_12 : decode cX3_before 12 = .ok (.iconst 0, 1) := by decide +kernel
theorem dX3_before_13 : decode cX3_before 13 = .ok (.istore 5, 2) := by decide +kernel
theorem dX3_before_15 : decode cX3_before 15 = .ok (.iload 5, 2) := by decide +kernel
theorem dX3_before_17 : decode cX3_before 17 = .ok (.iconst 2, 1) := by decide +kernel
theorem dX3_before_18 : decode cX3_before 18 = .ok (.if_icmp .ge 51, 3) := by decide +kernel
theorem dX3_before_21 : decode cX3_before 21 = .ok (.aload_n 0, 1) := by decide +kernel
theorem dX3_before_22 : decode cX3_before 22 = .ok (.iload 4, 2) := by decide +kernel
theorem dX3_before_24 : decode cX3_before 24 = .ok (.iload 5, 2) := by decide +kernel
theorem dX3_before_26 : decode cX3_before 26 = .ok (.invokevirtual 95, 3) := by decide +kernel
theorem dX3_before_29 : decode cX3_before 29 = .ok (.iload_n 2, 1) := by decide +kernel
theorem dX3_before_30 : decode cX3_before 30 = .ok (.iconst 1, 1) := by decide +kernel
theorem dX3_before_31 : decode cX3_before 31 = .ok (.ixor, 1) := by decide +kernel
theorem dX3_before_32 : decode cX3_before 32 = .ok (.if_icmp .ne 31, 3) := by decide +kernel
theorem dX3_before_35 : decode cX3_before 35 = .ok (.aload_n 0, 1) := by decide +kernel
theorem dX3_before_36 : decode cX3_before 36 = .ok (.iload_n 1, 1) := by decide +kernel
theorem dX3_before_37 : decode cX3_before 37 = .ok (.iload 4, 2) := by decide +kernel
theorem dX3_before_39 : decode cX3_before 39 = .ok (.iload 5, 2) := by decide +kernel
theorem dX3_before_41 : decode cX3_before 41 = .ok (.iload_n 3, 1) := by decide +kernel
theorem dX3_before_42 : decode cX3_before 42 = .ok (.invokevirtual 112, 3) := by decide +kernel
theorem dX3_before_45 : decode cX3_before 45 = .ok (.aload_n 0, 1) := by decide +kernel
theorem dX3_before_46 : decode cX3_before 46 = .ok (.getfield 50, 3) := by decide +kernel
theorem dX3_before_49 : decode cX3_before 49 = .ok (.iload_n 2, 1) := by decide +kernel
theorem dX3_before_50 : decode cX3_before 50 = .ok (.iaload, 1) := by decide +kernel
theorem dX3_before_51 : decode cX3_before 51 = .ok (.if_icmp .ne 12, 3) := by decide +kernel
theorem dX3_before_54 : decode cX3_before 54 = .ok (.aload_n 0, 1) := by decide +kernel
theorem dX3_before_55 : decode cX3_before 55 = .ok (.iload 4, 2) := by decide +kernel
theorem dX3_before_57 : decode cX3_before 57 = .ok (.iload 5, 2) := by decide +kernel
theorem dX3_before_59 : decode cX3_before 59 = .ok (.invokevirtual 106, 3) := by decide +kernel
theorem dX3_before_62 : decode cX3_before 62 = .ok (.ireturn, 1) := by decide +kernel
theorem dX3_before_63 : decode cX3_before 63 = .ok (.iinc 5 1, 3) := by decide +kernel
theorem dX3_before_66 : decode cX3_before 66 = .ok (.goto (-51), 3) := by decide +kernel
theorem dX3_before_69 : decode cX3_before 69 = .ok (.iinc 4 1, 3) := by decide +kernel
theorem dX3_before_72 : decode cX3_before 72 = .ok (.goto (-69), 3) := by decide +kernel
theorem dX3_before_75 : decode cX3_before 75 = .ok (.iconst (-1), 1) := by decide +kernel
theorem dX3_before_76 : decode cX3_before 76 = .ok (.ireturn, 1) := by decide +kernel
set_option maxRecDepth 20000 in
theorem ggX3_isDrive_X3_in : GoodIn wsX3_isDrive wsX3_in := goodIn_r _ [5] (by decide +kernel) (by decide +kernel)
set_option maxRecDepth 20000 in
theorem gX3_isDrive_X3_in : GoodIn wsX3_isDrive (va_wsS RX3 66 yX3_in wsX3_in) := goodIn_app (goodIn_of _ (by decide +kernel)) ggX3_isDrive_X3_in
set_option maxRecDepth 20000 in
theorem ggX3_isDrive_X3_isPiece : GoodIn wsX3_isDrive wsX3_isPiece := goodIn_r _ [9, 10, 2, 3, 4, 5, 11, 12, 13, 14, 15, 16, 17, 18, 19, 20, 21, 22, 23, 24, 25, 26, 27, 28, 29, 30, 31, 32, 33, 34] (by decide +kernel) (by decide +kernel)
set_option maxRecDepth 20000 in
theorem gX3_isDrive_X3_isPiece : GoodIn wsX3_isDrive (wsV RX3 76 RX3 yX3_isPiece wsX3_isPiece) := goodIn_app (goodIn_of _ (by decide +kernel)) ggX3_isDrive_X3_isPiece
theorem dX3_isDrive_0 : decode cX3_isDrive 0 = .ok (.iload_n 1, 1) := by decide +kernel
theorem dX3_isDrive_1 : decode cX3_isDrive 1 = .ok (.iconst 0, 1) := by decide +kernel
theorem dX3_isDrive_2 : decode cX3_isDrive 2 = .ok (.aload_n 0, 1) := by decide +kernel
theorem dX3_isDrive_3 : decode cX3_isDrive 3 = .ok (.getfield 92, 3) := by decide +kernel
theorem dX3_isDrive_6 : decode cX3_isDrive 6 = .ok (.iconst 1, 1) := by decide +kernel
theorem dX3_isDrive_7 : decode cX3_isDrive 7 = .ok (.isub, 1) := by decide +kernel
theorem dX3_isDrive_8 : decode cX3_isDrive 8 = .ok (.invokestatic 66, 3) := by decide +kernel
theorem dX3_isDrive_11 : decode cX3_isDrive 11 = .ok (.ifCond .eq 34, 3) := by decide +kernel
theorem dX3_isDrive_14 : decode cX3_isDrive 14 = .ok (.aload_n 0, 1) := by decide +kernel
theorem dX3_isDrive_15 : decode cX3_isDrive 15 = .ok (.iload_n 2, 1) := by decide +kernel
theorem dX3_isDrive_16 : decode cX3_isDrive 16 = .ok (.invokevirtual 76, 3) := by decide +kernel
theorem dX3_isDrive_19 : decode cX3_isDrive 19 = .ok (.ifCond .eq 26, 3) := by decide +kernel
theorem dX3_isDrive_22 : decode cX3_isDrive 22 = .ok (.aload_n 0, 1) := by decide +kernel
theorem dX3_isDrive_23 : decode cX3_isDrive 23 = .ok (.iload_n 3, 1) := by decide +kernel
theorem dX3_isDrive_24 : decode cX3_isDrive 24 = .ok (.invokevirtual 76, 3) := by decide +kernel
theorem dX3_isDrive_27 : decode cX3_isDrive 27 = .ok (.ifCond .eq 18, 3) := by decide +kernel
theorem dX3_isDrive_30 : decode cX3_isDrive 30 = .ok (.iload 4, 2) := by decide +kernel
theorem dX3_isDrive_32 : decode cX3_isDrive 32 = .ok (.iconst 0, 1) := by decide +kernel
theorem dX3_isDrive_33 : decode cX3_isDrive 33 = .ok (.bipush 23, 2) := by decide +kernel
theorem dX3_isDrive_35 : decode cX3_isDrive 35 = .ok (.invokestatic 66, 3) := by decide +kernel
theorem dX3_isDrive_38 : decode cX3_isDrive 38 = .ok (.ifCond .eq 7, 3) := by decide +kernel
theorem dX3_isDrive_41 : decode cX3_isDrive 41 = .ok (.iconst 1, 1) := by decide +kernel
theorem dX3_isDrive_42 : decode cX3_isDrive 42 = .ok (.goto 4, 3) := by decide +kernel
theorem dX3_isDrive_45 : decode cX3_isDrive 45 = .ok (.iconst 0, 1) := by decide +kernel
theorem dX3_isDrive_46 : decode cX3_isDrive 46 = .ok (.ireturn, 1) := by decide +kernel
set_option maxRecDepth 20000 in
theorem ggX3_least_X3_reachAll : GoodIn wsX3_least wsX3_reachAll := goodIn_r _ [5, 6, 7, 8, 9, 10, 11, 12, 4, 13, 14, 15, 16, 17, 18, 19, 20, 21, 22, 23, 24, 25, 26, 27, 28, 29, 30, 31, 32, 33, 34, 35, 36, 37, 38, 39, 40, 41, 42, 47, 48, 49, 50, 51, 52, 53, 54, 55, 56, 57, 58, 59, 60, 61, 62, 63, 64, 65, 66, 67, 68, 69, 70] (by decide +kernel) (by decide +kernel)
set_option maxRecDepth 20000 in
theorem gX3_least_X3_reachAll : GoodIn wsX3_least (wsV RX3 116 RX3 yX3_reachAll wsX3_reachAll) := goodIn_app (goodIn_of _ (by decide +kernel)) ggX3_least_X3_reachAll
set_option maxRecDepth 20000 in
theorem ggX3_least_X3_secondsTo : GoodIn wsX3_least wsX3_secondsTo := goodIn_r _ [46, 9, 7, 18, 31, 32, 33, 4, 34, 25, 24, 20, 21, 22, 23, 26, 27, 28, 29, 30, 35, 36, 37, 38, 39, 40, 41, 42, 8, 47, 48, 49, 50, 51, 52, 53, 54, 55, 56, 57, 58, 59, 60, 61, 62, 63, 64, 65, 66, 67, 68, 69, 70] (by decide +kernel) (by decide +kernel)
set_option maxRecDepth 20000 in
theorem gX3_least_X3_secondsTo : GoodIn wsX3_least (wsV RX3 120 RX3 yX3_secondsTo wsX3_secondsTo) := goodIn_app (goodIn_of _ (by decide +kernel)) ggX3_least_X3_secondsTo
theorem dX3_least_0 : decode cX3_least 0 = .ok (.aload_n 0, 1) := by decide +kernel
theorem dX3_least_1 : decode cX3_least 1 = .ok (.iload_n 1, 1) := by decide +kernel
theorem dX3_least_2 : decode cX3_least 2 = .ok (.iload_n 2, 1) := by decide +kernel
theorem dX3_least_3 : decode cX3_least 3 = .ok (.iload 4, 2) := by decide +kernel
theorem dX3_least_5 : decode cX3_least 5 = .ok (.invokevirtual 116, 3) := by decide +kernel
theorem dX3_least_8 : decode cX3_least 8 = .ok (.aload_n 0, 1) := by decide +kernel
theorem dX3_least_9 : decode cX3_least 9 = .ok (.iload_n 1, 1) := by decide +kernel
theorem dX3_least_10 : decode cX3_least 10 = .ok (.iload_n 2, 1) := by decide +kernel
theorem dX3_least_11 : decode cX3_least 11 = .ok (.iload_n 3, 1) := by decide +kernel
theorem dX3_least_12 : decode cX3_least 12 = .ok (.iload 4, 2) := by decide +kernel
theorem dX3_least_14 : decode cX3_least 14 = .ok (.invokevirtual 120, 3) := by decide +kernel
theorem dX3_least_17 : decode cX3_least 17 = .ok (.ireturn, 1) := by decide +kernel
set_option maxRecDepth 20000 in
theorem ggX3_way_X3_isDrive : GoodIn wsX3_way wsX3_isDrive := goodIn_r _ [9, 10, 11, 12, 8, 13, 14, 15, 16, 17, 18, 74, 75, 76, 77, 78, 79, 80, 81, 82, 83, 84, 85, 86, 87, 88, 89, 90, 91, 92, 93, 94, 95, 96, 97] (by decide +kernel) (by decide +kernel)
set_option maxRecDepth 20000 in
theorem gX3_way_X3_isDrive : GoodIn wsX3_way (wsV RX3 123 RX3 yX3_isDrive wsX3_isDrive) := goodIn_app (goodIn_of _ (by decide +kernel)) ggX3_way_X3_isDrive
set_option maxRecDepth 20000 in
theorem ggX3_way_X3_least : GoodIn wsX3_way wsX3_least := goodIn_r _ [22, 23, 24, 25, 8, 26, 18, 4, 27, 28, 29, 30, 31, 32, 33, 34, 35, 36, 37, 38, 39, 40, 41, 42, 43, 44, 45, 46, 47, 48, 49, 50, 51, 52, 53, 54, 55, 56, 57, 58, 59, 60, 61, 62, 63, 64, 65, 74, 75, 76, 77, 78, 79, 80, 81, 82, 83, 84, 85, 86, 87, 88, 89, 90, 91, 92, 93, 94, 95, 96, 97] (by decide +kernel) (by decide +kernel)
set_option maxRecDepth 20000 in
theorem gX3_way_X3_least : GoodIn wsX3_way (wsV RX3 126 RX3 yX3_least wsX3_least) := goodIn_app (goodIn_of _ (by decide +kernel)) ggX3_way_X3_least
set_option maxRecDepth 20000 in
theorem ggX3_way_X3_lastEnd : GoodIn wsX3_way wsX3_lastEnd := goodIn_r _ [69, 28, 4, 37, 50, 51, 52, 8, 53, 44, 43, 39, 40, 41, 42, 45, 46, 47, 48, 49, 54, 55, 56, 57, 58, 59, 60, 61, 27, 74, 75, 76, 77, 78, 79, 80, 81, 82, 83, 84, 85, 86, 87, 88, 89, 90, 91, 92, 93, 94, 95, 96, 97] (by decide +kernel) (by decide +kernel)
set_option maxRecDepth 20000 in
theorem gX3_way_X3_lastEnd : GoodIn wsX3_way (wsV RX3 132 RX3 yX3_lastEnd wsX3_lastEnd) := goodIn_app (goodIn_of _ (by decide +kernel)) ggX3_way_X3_lastEnd
set_option maxRecDepth 20000 in
theorem ggX3_way_X3_before : GoodIn wsX3_way wsX3_before := goodIn_r _ [73, 28, 4, 50, 51, 52, 8, 53, 44, 43, 33, 34, 35, 36, 37, 38, 39, 40, 41, 42, 45, 46, 47, 48, 49, 54, 55, 56, 57, 58, 59, 60, 61, 27, 74, 75, 76, 77, 78, 79, 80, 81, 82, 83, 84, 85, 86, 87, 88, 89, 90, 91, 92, 93, 94, 95, 96, 97] (by decide +kernel) (by decide +kernel)
set_option maxRecDepth 20000 in
theorem gX3_way_X3_before : GoodIn wsX3_way (wsV RX3 135 RX3 yX3_before wsX3_before) := goodIn_app (goodIn_of _ (by decide +kernel)) ggX3_way_X3_before
theorem dX3_way_0 : decode cX3_way 0 = .ok (.aload_n 0, 1) := by decide +kernel
theorem dX3_way_1 : decode cX3_way 1 = .ok (.aload_n 0, 1) := by decide +kernel
theorem dX3_way_2 : decode cX3_way 2 = .ok (.iload_n 1, 1) := by decide +kernel
theorem dX3_way_3 : decode cX3_way 3 = .ok (.iload_n 2, 1) := by decide +kernel
theorem dX3_way_4 : decode cX3_way 4 = .ok (.iload_n 3, 1) := by decide +kernel
theorem dX3_way_5 : decode cX3_way 5 = .ok (.iload 4, 2) := by decide +kernel
theorem dX3_way_7 : decode cX3_way 7 = .ok (.invokevirtual 123, 3) := by decide +kernel
theorem dX3_way_10 : decode cX3_way 10 = .ok (.ifCond .eq 7, 3) := by decide +kernel
theorem dX3_way_13 : decode cX3_way 13 = .ok (.iconst 0, 1) := by decide +kernel
theorem dX3_way_14 : decode cX3_way 14 = .ok (.goto 4, 3) := by decide +kernel
theorem dX3_way_17 : decode cX3_way 17 = .ok (.iconst 1, 1) := by decide +kernel
theorem dX3_way_18 : decode cX3_way 18 = .ok (.putfield 59, 3) := by decide +kernel
theorem dX3_way_21 : decode cX3_way 21 = .ok (.aload_n 0, 1) := by decide +kernel
theorem dX3_way_22 : decode cX3_way 22 = .ok (.getfield 59, 3) := by decide +kernel
theorem dX3_way_25 : decode cX3_way 25 = .ok (.ifCond .le 5, 3) := by decide +kernel
theorem dX3_way_28 : decode cX3_way 28 = .ok (.iconst 0, 1) := by decide +kernel
theorem dX3_way_29 : decode cX3_way 29 = .ok (.ireturn, 1) := by decide +kernel
theorem dX3_way_30 : decode cX3_way 30 = .ok (.aload_n 0, 1) := by decide +kernel
theorem dX3_way_31 : decode cX3_way 31 = .ok (.iload_n 1, 1) := by decide +kernel
theorem dX3_way_32 : decode cX3_way 32 = .ok (.iload_n 2, 1) := by decide +kernel
theorem dX3_way_33 : decode cX3_way 33 = .ok (.iload_n 3, 1) := by decide +kernel
theorem dX3_way_34 : decode cX3_way 34 = .ok (.iload 4, 2) := by decide +kernel
theorem dX3_way_36 : decode cX3_way 36 = .ok (.invokevirtual 126, 3) := by decide +kernel
theorem dX3_way_39 : decode cX3_way 39 = .ok (.istore 5, 2) := by decide +kernel
theorem dX3_way_41 : decode cX3_way 41 = .ok (.aload_n 0, 1) := by decide +kernel
theorem dX3_way_42 : decode cX3_way 42 = .ok (.iconst 0, 1) := by decide +kernel
theorem dX3_way_43 : decode cX3_way 43 = .ok (.putfield 129, 3) := by decide +kernel
theorem dX3_way_46 : decode cX3_way 46 = .ok (.iload 5, 2) := by decide +kernel
theorem dX3_way_48 : decode cX3_way 48 = .ok (.iconst (-1), 1) := by decide +kernel
theorem dX3_way_49 : decode cX3_way 49 = .ok (.if_icmp .ne 5, 3) := by decide +kernel
theorem dX3_way_52 : decode cX3_way 52 = .ok (.iconst (-1), 1) := by decide +kernel
theorem dX3_way_53 : decode cX3_way 53 = .ok (.ireturn, 1) := by decide +kernel
theorem dX3_way_54 : decode cX3_way 54 = .ok (.aload_n 0, 1) := by decide +kernel
theorem dX3_way_55 : decode cX3_way 55 = .ok (.getfield 53, 3) := by decide +kernel
theorem dX3_way_58 : decode cX3_way 58 = .ok (.iconst 0, 1) := by decide +kernel
theorem dX3_way_59 : decode cX3_way 59 = .ok (.iload_n 3, 1) := by decide +kernel
theorem dX3_way_60 : decode cX3_way 60 = .ok (.iastore, 1) := by decide +kernel
theorem dX3_way_61 : decode cX3_way 61 = .ok (.aload_n 0, 1) := by decide +kernel
theorem dX3_way_62 : decode cX3_way 62 = .ok (.iconst 1, 1) := by decide +kernel
theorem dX3_way_63 : decode cX3_way 63 = .ok (.putfield 129, 3) := by decide +kernel
theorem dX3_way_66 : decode cX3_way 66 = .ok (.iload_n 2, 1) := by decide +kernel
theorem dX3_way_67 : decode cX3_way 67 = .ok (.iload_n 3, 1) := by decide +kernel
theorem dX3_way_68 : decode cX3_way 68 = .ok (.if_icmp .ne 5, 3) := by decide +kernel
theorem dX3_way_71 : decode cX3_way 71 = .ok (.iconst 0, 1) := by decide +kernel
theorem dX3_way_72 : decode cX3_way 72 = .ok (.ireturn, 1) := by decide +kernel
theorem dX3_way_73 : decode cX3_way 73 = .ok (.aload_n 0, 1) := by decide +kernel
theorem dX3_way_74 : decode cX3_way 74 = .ok (.iload_n 1, 1) := by decide +kernel
theorem dX3_way_75 : decode cX3_way 75 = .ok (.iload_n 3, 1) := by decide +kernel
theorem dX3_way_76 : decode cX3_way 76 = .ok (.iload 5, 2) := by decide +kernel
theorem dX3_way_78 : decode cX3_way 78 = .ok (.iload 4, 2) := by decide +kernel
theorem dX3_way_80 : decode cX3_way 80 = .ok (.invokevirtual 132, 3) := by decide +kernel
theorem dX3_way_83 : decode cX3_way 83 = .ok (.istore 6, 2) := by decide +kernel
theorem dX3_way_85 : decode cX3_way 85 = .ok (.aload_n 0, 1) := by decide +kernel
theorem dX3_way_86 : decode cX3_way 86 = .ok (.getfield 50, 3) := by decide +kernel
theorem dX3_way_89 : decode cX3_way 89 = .ok (.iload 6, 2) := by decide +kernel
theorem dX3_way_91 : decode cX3_way 91 = .ok (.iaload, 1) := by decide +kernel
theorem dX3_way_92 : decode cX3_way 92 = .ok (.ifCond .le 40, 3) := by decide +kernel
theorem dX3_way_95 : decode cX3_way 95 = .ok (.aload_n 0, 1) := by decide +kernel
theorem dX3_way_96 : decode cX3_way 96 = .ok (.getfield 53, 3) := by decide +kernel
theorem dX3_way_99 : decode cX3_way 99 = .ok (.aload_n 0, 1) := by decide +kernel
theorem dX3_way_100 : decode cX3_way 100 = .ok (.getfield 129, 3) := by decide +kernel
theorem dX3_way_103 : decode cX3_way 103 = .ok (.iload 6, 2) := by decide +kernel
theorem dX3_way_105 : decode cX3_way 105 = .ok (.iconst 2, 1) := by decide +kernel
theorem dX3_way_106 : decode cX3_way 106 = .ok (.idiv, 1) := by decide +kernel
theorem dX3_way_107 : decode cX3_way 107 = .ok (.iastore, 1) := by decide +kernel
theorem dX3_way_108 : decode cX3_way 108 = .ok (.aload_n 0, 1) := by decide +kernel
theorem dX3_way_109 : decode cX3_way 109 = .ok (.dup, 1) := by decide +kernel
theorem dX3_way_110 : decode cX3_way 110 = .ok (.getfield 129, 3) := by decide +kernel
theorem dX3_way_113 : decode cX3_way 113 = .ok (.iconst 1, 1) := by decide +kernel
theorem dX3_way_114 : decode cX3_way 114 = .ok (.iadd, 1) := by decide +kernel
theorem dX3_way_115 : decode cX3_way 115 = .ok (.putfield 129, 3) := by decide +kernel
theorem dX3_way_118 : decode cX3_way 118 = .ok (.aload_n 0, 1) := by decide +kernel
theorem dX3_way_119 : decode cX3_way 119 = .ok (.iload_n 1, 1) := by decide +kernel
theorem dX3_way_120 : decode cX3_way 120 = .ok (.iload 6, 2) := by decide +kernel
theorem dX3_way_122 : decode cX3_way 122 = .ok (.iload 4, 2) := by decide +kernel
theorem dX3_way_124 : decode cX3_way 124 = .ok (.invokevirtual 135, 3) := by decide +kernel
theorem dX3_way_127 : decode cX3_way 127 = .ok (.istore 6, 2) := by decide +kernel
theorem dX3_way_129 : decode cX3_way 129 = .ok (.goto (-44), 3) := by decide +kernel
theorem dX3_way_132 : decode cX3_way 132 = .ok (.aload_n 0, 1) := by decide +kernel
theorem dX3_way_133 : decode cX3_way 133 = .ok (.getfield 53, 3) := by decide +kernel
theorem dX3_way_136 : decode cX3_way 136 = .ok (.aload_n 0, 1) := by decide +kernel
theorem dX3_way_137 : decode cX3_way 137 = .ok (.getfield 129, 3) := by decide +kernel
theorem dX3_way_140 : decode cX3_way 140 = .ok (.iload 6, 2) := by decide +kernel
theorem dX3_way_142 : decode cX3_way 142 = .ok (.iconst 2, 1) := by decide +kernel
theorem dX3_way_143 : decode cX3_way 143 = .ok (.idiv, 1) := by decide +kernel
theorem dX3_way_144 : decode cX3_way 144 = .ok (.iastore, 1) := by decide +kernel
theorem dX3_way_145 : decode cX3_way 145 = .ok (.aload_n 0, 1) := by decide +kernel
theorem dX3_way_146 : decode cX3_way 146 = .ok (.dup, 1) := by decide +kernel
theorem dX3_way_147 : decode cX3_way 147 = .ok (.getfield 129, 3) := by decide +kernel
theorem dX3_way_150 : decode cX3_way 150 = .ok (.iconst 1, 1) := by decide +kernel
theorem dX3_way_151 : decode cX3_way 151 = .ok (.iadd, 1) := by decide +kernel
theorem dX3_way_152 : decode cX3_way 152 = .ok (.putfield 129, 3) := by decide +kernel
theorem dX3_way_155 : decode cX3_way 155 = .ok (.iload 5, 2) := by decide +kernel
theorem dX3_way_157 : decode cX3_way 157 = .ok (.ireturn, 1) := by decide +kernel
set_option maxRecDepth 20000 in
theorem ggX3_step_X3_in : GoodIn wsX3_step wsX3_in := goodIn_r _ [7] (by decide +kernel) (by decide +kernel)
set_option maxRecDepth 20000 in
theorem gX3_step_X3_in : GoodIn wsX3_step (va_wsS RX3 66 yX3_in wsX3_in) := goodIn_app (goodIn_of _ (by decide +kernel)) ggX3_step_X3_in
theorem dX3_step_0 : decode cX3_step 0 = .ok (.aload_n 0, 1) := by decide +kernel
theorem dX3_step_1 : decode cX3_step 1 = .ok (.iconst 0, 1) := by decide +kernel
theorem dX3_step_2 : decode cX3_step 2 = .ok (.putfield 59, 3) := by decide +kernel
theorem dX3_step_5 : decode cX3_step 5 = .ok (.iload_n 1, 1) := by decide +kernel
theorem dX3_step_6 : decode cX3_step 6 = .ok (.iconst 0, 1) := by decide +kernel
theorem dX3_step_7 : decode cX3_step 7 = .ok (.aload_n 0, 1) := by decide +kernel
theorem dX3_step_8 : decode cX3_step 8 = .ok (.getfield 129, 3) := by decide +kernel
theorem dX3_step_11 : decode cX3_step 11 = .ok (.iconst 1, 1) := by decide +kernel
theorem dX3_step_12 : decode cX3_step 12 = .ok (.isub, 1) := by decide +kernel
theorem dX3_step_13 : decode cX3_step 13 = .ok (.invokestatic 66, 3) := by decide +kernel
theorem dX3_step_16 : decode cX3_step 16 = .ok (.ifCond .eq 19, 3) := by decide +kernel
theorem dX3_step_19 : decode cX3_step 19 = .ok (.aload_n 0, 1) := by decide +kernel
theorem dX3_step_20 : decode cX3_step 20 = .ok (.getfield 53, 3) := by decide +kernel
theorem dX3_step_23 : decode cX3_step 23 = .ok (.aload_n 0, 1) := by decide +kernel
theorem dX3_step_24 : decode cX3_step 24 = .ok (.getfield 129, 3) := by decide +kernel
theorem dX3_step_27 : decode cX3_step 27 = .ok (.iconst 1, 1) := by decide +kernel
theorem dX3_step_28 : decode cX3_step 28 = .ok (.isub, 1) := by decide +kernel
theorem dX3_step_29 : decode cX3_step 29 = .ok (.iload_n 1, 1) := by decide +kernel
theorem dX3_step_30 : decode cX3_step 30 = .ok (.isub, 1) := by decide +kernel
theorem dX3_step_31 : decode cX3_step 31 = .ok (.iaload, 1) := by decide +kernel
theorem dX3_step_32 : decode cX3_step 32 = .ok (.goto 4, 3) := by decide +kernel
theorem dX3_step_35 : decode cX3_step 35 = .ok (.iconst (-1), 1) := by decide +kernel
theorem dX3_step_36 : decode cX3_step 36 = .ok (.ireturn, 1) := by decide +kernel
set_option maxRecDepth 20000 in
theorem ggX3_same_X3_isDrive : GoodIn wsX3_same wsX3_isDrive := goodIn_r _ [6, 7, 8, 9, 5, 10, 11, 12, 13, 14, 15, 64, 65, 66, 67, 68, 69, 70, 71, 72, 73, 74, 75, 76, 77, 78, 79, 80, 81, 82, 83, 84, 85, 86, 87] (by decide +kernel) (by decide +kernel)
set_option maxRecDepth 20000 in
theorem gX3_same_X3_isDrive : GoodIn wsX3_same (wsV RX3 123 RX3 yX3_isDrive wsX3_isDrive) := goodIn_app (goodIn_of _ (by decide +kernel)) ggX3_same_X3_isDrive
set_option maxRecDepth 20000 in
theorem ggX3_same_X3_least : GoodIn wsX3_same wsX3_least := goodIn_r _ [19, 20, 21, 22, 5, 23, 15, 24, 25, 26, 27, 28, 29, 30, 31, 32, 33, 34, 35, 36, 37, 38, 39, 40, 41, 42, 43, 44, 45, 46, 47, 48, 49, 50, 51, 52, 53, 54, 55, 56, 57, 58, 59, 60, 61, 62, 63, 64, 65, 66, 67, 68, 69, 70, 71, 72, 73, 74, 75, 76, 77, 78, 79, 80, 81, 82, 83, 84, 85, 86, 87] (by decide +kernel) (by decide +kernel)
set_option maxRecDepth 20000 in
theorem gX3_same_X3_least : GoodIn wsX3_same (wsV RX3 126 RX3 yX3_least wsX3_least) := goodIn_app (goodIn_of _ (by decide +kernel)) ggX3_same_X3_least
theorem dX3_same_0 : decode cX3_same 0 = .ok (.aload_n 0, 1) := by decide +kernel
theorem dX3_same_1 : decode cX3_same 1 = .ok (.aload_n 0, 1) := by decide +kernel
theorem dX3_same_2 : decode cX3_same 2 = .ok (.iload_n 1, 1) := by decide +kernel
theorem dX3_same_3 : decode cX3_same 3 = .ok (.iload_n 2, 1) := by decide +kernel
theorem dX3_same_4 : decode cX3_same 4 = .ok (.iload_n 3, 1) := by decide +kernel
theorem dX3_same_5 : decode cX3_same 5 = .ok (.iload 4, 2) := by decide +kernel
theorem dX3_same_7 : decode cX3_same 7 = .ok (.invokevirtual 123, 3) := by decide +kernel
theorem dX3_same_10 : decode cX3_same 10 = .ok (.ifCond .eq 7, 3) := by decide +kernel
theorem dX3_same_13 : decode cX3_same 13 = .ok (.iconst 0, 1) := by decide +kernel
theorem dX3_same_14 : decode cX3_same 14 = .ok (.goto 4, 3) := by decide +kernel
theorem dX3_same_17 : decode cX3_same 17 = .ok (.iconst 1, 1) := by decide +kernel
theorem dX3_same_18 : decode cX3_same 18 = .ok (.putfield 59, 3) := by decide +kernel
theorem dX3_same_21 : decode cX3_same 21 = .ok (.aload_n 0, 1) := by decide +kernel
theorem dX3_same_22 : decode cX3_same 22 = .ok (.getfield 59, 3) := by decide +kernel
theorem dX3_same_25 : decode cX3_same 25 = .ok (.ifCond .ne 28, 3) := by decide +kernel
theorem dX3_same_28 : decode cX3_same 28 = .ok (.aload_n 0, 1) := by decide +kernel
theorem dX3_same_29 : decode cX3_same 29 = .ok (.iload_n 1, 1) := by decide +kernel
theorem dX3_same_30 : decode cX3_same 30 = .ok (.iload_n 2, 1) := by decide +kernel
theorem dX3_same_31 : decode cX3_same 31 = .ok (.iload_n 3, 1) := by decide +kernel
theorem dX3_same_32 : decode cX3_same 32 = .ok (.iload 4, 2) := by decide +kernel
theorem dX3_same_34 : decode cX3_same 34 = .ok (.invokevirtual 126, 3) := by decide +kernel
theorem dX3_same_37 : decode cX3_same 37 = .ok (.aload_n 0, 1) := by decide +kernel
theorem dX3_same_38 : decode cX3_same 38 = .ok (.iload_n 1, 1) := by decide +kernel
theorem dX3_same_39 : decode cX3_same 39 = .ok (.iload_n 3, 1) := by decide +kernel
theorem dX3_same_40 : decode cX3_same 40 = .ok (.iload_n 2, 1) := by decide +kernel
theorem dX3_same_41 : decode cX3_same 41 = .ok (.iload 4, 2) := by decide +kernel
theorem dX3_same_43 : decode cX3_same 43 = .ok (.invokevirtual 126, 3) := by decide +kernel
theorem dX3_same_46 : decode cX3_same 46 = .ok (.if_icmp .ne 7, 3) := by decide +kernel
theorem dX3_same_49 : decode cX3_same 49 = .ok (.iconst 1, 1) := by decide +kernel
theorem dX3_same_50 : decode cX3_same 50 = .ok (.goto 4, 3) := by decide +kernel
theorem dX3_same_53 : decode cX3_same 53 = .ok (.iconst 0, 1) := by decide +kernel
theorem dX3_same_54 : decode cX3_same 54 = .ok (.ireturn, 1) := by decide +kernel
set_option maxRecDepth 20000 in
theorem ggX3_charger_X3_isPiece : GoodIn wsX3_charger wsX3_isPiece := goodIn_r _ [9, 10, 11, 12, 8, 13, 14, 15, 16, 17, 18, 19, 20, 21, 22, 23, 24, 25, 26, 27, 28, 29, 30, 31, 32, 33, 34, 35, 36, 37] (by decide +kernel) (by decide +kernel)
set_option maxRecDepth 20000 in
theorem gX3_charger_X3_isPiece : GoodIn wsX3_charger (wsV RX3 76 RX3 yX3_isPiece wsX3_isPiece) := goodIn_app (goodIn_of _ (by decide +kernel)) ggX3_charger_X3_isPiece
theorem dX3_charger_0 : decode cX3_charger 0 = .ok (.aload_n 0, 1) := by decide +kernel
theorem dX3_charger_1 : decode cX3_charger 1 = .ok (.aload_n 0, 1) := by decide +kernel
theorem dX3_charger_2 : decode cX3_charger 2 = .ok (.iload_n 1, 1) := by decide +kernel
theorem dX3_charger_3 : decode cX3_charger 3 = .ok (.invokevirtual 76, 3) := by decide +kernel
theorem dX3_charger_6 : decode cX3_charger 6 = .ok (.ifCond .ne 7, 3) := by decide +kernel
theorem dX3_charger_9 : decode cX3_charger 9 = .ok (.iconst 1, 1) := by decide +kernel
theorem dX3_charger_10 : decode cX3_charger 10 = .ok (.goto 4, 3) := by decide +kernel
theorem dX3_charger_13 : decode cX3_charger 13 = .ok (.iconst 0, 1) := by decide +kernel
theorem dX3_charger_14 : decode cX3_charger 14 = .ok (.putfield 59, 3) := by decide +kernel
theorem dX3_charger_17 : decode cX3_charger 17 = .ok (.iconst 0, 1) := by decide +kernel
theorem dX3_charger_18 : decode cX3_charger 18 = .ok (.istore_n 2, 1) := by decide +kernel
theorem dX3_charger_19 : decode cX3_charger 19 = .ok (.iload_n 2, 1) := by decide +kernel
theorem dX3_charger_20 : decode cX3_charger 20 = .ok (.aload_n 0, 1) := by decide +kernel
theorem dX3_charger_21 : decode cX3_charger 21 = .ok (.getfield 138, 3) := by decide +kernel
theorem dX3_charger_24 : decode cX3_charger 24 = .ok (.if_icmp .ge 35, 3) := by decide +kernel
theorem dX3_charger_27 : decode cX3_charger 27 = .ok (.aload_n 0, 1) := by decide +kernel
theorem dX3_charger_28 : decode cX3_charger 28 = .ok (.getfield 59, 3) := by decide +kernel
theorem dX3_charger_31 : decode cX3_charger 31 = .ok (.ifCond .ne 28, 3) := by decide +kernel
theorem dX3_charger_34 : decode cX3_charger 34 = .ok (.aload_n 0, 1) := by decide +kernel
theorem dX3_charger_35 : decode cX3_charger 35 = .ok (.aload_n 0, 1) := by decide +kernel
theorem dX3_charger_36 : decode cX3_charger 36 = .ok (.getfield 44, 3) := by decide +kernel
theorem dX3_charger_39 : decode cX3_charger 39 = .ok (.iload_n 2, 1) := by decide +kernel
theorem dX3_charger_40 : decode cX3_charger 40 = .ok (.iaload, 1) := by decide +kernel
theorem dX3_charger_41 : decode cX3_charger 41 = .ok (.iload_n 1, 1) := by decide +kernel
theorem dX3_charger_42 : decode cX3_charger 42 = .ok (.if_icmp .ne 7, 3) := by decide +kernel
theorem dX3_charger_45 : decode cX3_charger 45 = .ok (.iconst 2, 1) := by decide +kernel
theorem dX3_charger_46 : decode cX3_charger 46 = .ok (.goto 4, 3) := by decide +kernel
theorem dX3_charger_49 : decode cX3_charger 49 = .ok (.iconst 0, 1) := by decide +kernel
theorem dX3_charger_50 : decode cX3_charger 50 = .ok (.putfield 59, 3) := by decide +kernel
theorem dX3_charger_53 : decode cX3_charger 53 = .ok (.iinc 2 1, 3) := by decide +kernel
theorem dX3_charger_56 : decode cX3_charger 56 = .ok (.goto (-37), 3) := by decide +kernel
theorem dX3_charger_59 : decode cX3_charger 59 = .ok (.aload_n 0, 1) := by decide +kernel
theorem dX3_charger_60 : decode cX3_charger 60 = .ok (.getfield 59, 3) := by decide +kernel
theorem dX3_charger_63 : decode cX3_charger 63 = .ok (.ifCond .ne 21, 3) := by decide +kernel
theorem dX3_charger_66 : decode cX3_charger 66 = .ok (.aload_n 0, 1) := by decide +kernel
theorem dX3_charger_67 : decode cX3_charger 67 = .ok (.aload_n 0, 1) := by decide +kernel
theorem dX3_charger_68 : decode cX3_charger 68 = .ok (.getfield 138, 3) := by decide +kernel
theorem dX3_charger_71 : decode cX3_charger 71 = .ok (.bipush 8, 2) := by decide +kernel
theorem dX3_charger_73 : decode cX3_charger 73 = .ok (.if_icmp .ne 7, 3) := by decide +kernel
theorem dX3_charger_76 : decode cX3_charger 76 = .ok (.iconst 3, 1) := by decide +kernel
theorem dX3_charger_77 : decode cX3_charger 77 = .ok (.goto 4, 3) := by decide +kernel
theorem dX3_charger_80 : decode cX3_charger 80 = .ok (.iconst 0, 1) := by decide +kernel
theorem dX3_charger_81 : decode cX3_charger 81 = .ok (.putfield 59, 3) := by decide +kernel
theorem dX3_charger_84 : decode cX3_charger 84 = .ok (.aload_n 0, 1) := by decide +kernel
theorem dX3_charger_85 : decode cX3_charger 85 = .ok (.getfield 59, 3) := by decide +kernel
theorem dX3_charger_88 : decode cX3_charger 88 = .ok (.ifCond .le 5, 3) := by decide +kernel
theorem dX3_charger_91 : decode cX3_charger 91 = .ok (.iconst 0, 1) := by decide +kernel
theorem dX3_charger_92 : decode cX3_charger 92 = .ok (.ireturn, 1) := by decide +kernel
theorem dX3_charger_93 : decode cX3_charger 93 = .ok (.aload_n 0, 1) := by decide +kernel
theorem dX3_charger_94 : decode cX3_charger 94 = .ok (.getfield 44, 3) := by decide +kernel
theorem dX3_charger_97 : decode cX3_charger 97 = .ok (.aload_n 0, 1) := by decide +kernel
theorem dX3_charger_98 : decode cX3_charger 98 = .ok (.getfield 138, 3) := by decide +kernel
theorem dX3_charger_101 : decode cX3_charger 101 = .ok (.iload_n 1, 1) := by decide +kernel
theorem dX3_charger_102 : decode cX3_charger 102 = .ok (.iastore, 1) := by decide +kernel
theorem dX3_charger_103 : decode cX3_charger 103 = .ok (.aload_n 0, 1) := by decide +kernel
theorem dX3_charger_104 : decode cX3_charger 104 = .ok (.dup, 1) := by decide +kernel
theorem dX3_charger_105 : decode cX3_charger 105 = .ok (.getfield 138, 3) := by decide +kernel
theorem dX3_charger_108 : decode cX3_charger 108 = .ok (.iconst 1, 1) := by decide +kernel
theorem dX3_charger_109 : decode cX3_charger 109 = .ok (.iadd, 1) := by decide +kernel
theorem dX3_charger_110 : decode cX3_charger 110 = .ok (.putfield 138, 3) := by decide +kernel
theorem dX3_charger_113 : decode cX3_charger 113 = .ok (.aload_n 0, 1) := by decide +kernel
theorem dX3_charger_114 : decode cX3_charger 114 = .ok (.dup, 1) := by decide +kernel
theorem dX3_charger_115 : decode cX3_charger 115 = .ok (.getfield 70, 3) := by decide +kernel
theorem dX3_charger_118 : decode cX3_charger 118 = .ok (.iconst 1, 1) := by decide +kernel
theorem dX3_charger_119 : decode cX3_charger 119 = .ok (.iadd, 1) := by decide +kernel
theorem dX3_charger_120 : decode cX3_charger 120 = .ok (.putfield 70, 3) := by decide +kernel
theorem dX3_charger_123 : decode cX3_charger 123 = .ok (.aload_n 0, 1) := by decide +kernel
theorem dX3_charger_124 : decode cX3_charger 124 = .ok (.getfield 138, 3) := by decide +kernel
theorem dX3_charger_127 : decode cX3_charger 127 = .ok (.ireturn, 1) := by decide +kernel
set_option maxRecDepth 20000 in
theorem ggX3_nearest_X3_isDrive : GoodIn wsX3_nearest wsX3_isDrive := goodIn_r _ [9, 10, 11, 12, 8, 13, 14, 15, 16, 17, 2, 62, 63, 64, 65, 66, 67, 68, 69, 70, 71, 72, 73, 74, 75, 76, 77, 78, 79, 80, 81, 82, 83, 84, 85] (by decide +kernel) (by decide +kernel)
set_option maxRecDepth 20000 in
theorem gX3_nearest_X3_isDrive : GoodIn wsX3_nearest (wsV RX3 123 RX3 yX3_isDrive wsX3_isDrive) := goodIn_app (goodIn_of _ (by decide +kernel)) ggX3_nearest_X3_isDrive
set_option maxRecDepth 20000 in
theorem ggX3_nearest_X3_reachAll : GoodIn wsX3_nearest wsX3_reachAll := goodIn_r _ [21, 2, 22, 23, 24, 25, 26, 27, 8, 28, 29, 30, 31, 32, 33, 34, 35, 36, 37, 38, 39, 40, 41, 42, 43, 44, 45, 46, 47, 48, 49, 50, 51, 52, 53, 54, 55, 56, 57, 62, 63, 64, 65, 66, 67, 68, 69, 70, 71, 72, 73, 74, 75, 76, 77, 78, 79, 80, 81, 82, 83, 84, 85] (by decide +kernel) (by decide +kernel)
set_option maxRecDepth 20000 in
theorem gX3_nearest_X3_reachAll : GoodIn wsX3_nearest (wsV RX3 116 RX3 yX3_reachAll wsX3_reachAll) := goodIn_app (goodIn_of _ (by decide +kernel)) ggX3_nearest_X3_reachAll
set_option maxRecDepth 20000 in
theorem ggX3_nearest_X3_secondsTo : GoodIn wsX3_nearest wsX3_secondsTo := goodIn_r _ [61, 24, 22, 33, 46, 47, 48, 8, 49, 40, 39, 35, 36, 37, 38, 41, 42, 43, 44, 45, 50, 51, 52, 53, 54, 55, 56, 57, 23, 62, 63, 64, 65, 66, 67, 68, 69, 70, 71, 72, 73, 74, 75, 76, 77, 78, 79, 80, 81, 82, 83, 84, 85] (by decide +kernel) (by decide +kernel)
set_option maxRecDepth 20000 in
theorem gX3_nearest_X3_secondsTo : GoodIn wsX3_nearest (wsV RX3 120 RX3 yX3_secondsTo wsX3_secondsTo) := goodIn_app (goodIn_of _ (by decide +kernel)) ggX3_nearest_X3_secondsTo
theorem dX3_nearest_0 : decode cX3_nearest 0 = .ok (.aload_n 0, 1) := by decide +kernel
theorem dX3_nearest_1 : decode cX3_nearest 1 = .ok (.aload_n 0, 1) := by decide +kernel
theorem dX3_nearest_2 : decode cX3_nearest 2 = .ok (.iload_n 1, 1) := by decide +kernel
theorem dX3_nearest_3 : decode cX3_nearest 3 = .ok (.iload_n 2, 1) := by decide +kernel
theorem dX3_nearest_4 : decode cX3_nearest 4 = .ok (.iload_n 2, 1) := by decide +kernel
theorem dX3_nearest_5 : decode cX3_nearest 5 = .ok (.iload_n 3, 1) := by decide +kernel
theorem dX3_nearest_6 : decode cX3_nearest 6 = .ok (.invokevirtual 123, 3) := by decide +kernel
theorem dX3_nearest_9 : decode cX3_nearest 9 = .ok (.ifCond .eq 7, 3) := by decide +kernel
theorem dX3_nearest_12 : decode cX3_nearest 12 = .ok (.iconst 0, 1) := by decide +kernel
theorem dX3_nearest_13 : decode cX3_nearest 13 = .ok (.goto 4, 3) := by decide +kernel
theorem dX3_nearest_16 : decode cX3_nearest 16 = .ok (.iconst 1, 1) := by decide +kernel
theorem dX3_nearest_17 : decode cX3_nearest 17 = .ok (.putfield 59, 3) := by decide +kernel
theorem dX3_nearest_20 : decode cX3_nearest 20 = .ok (.aload_n 0, 1) := by decide +kernel
theorem dX3_nearest_21 : decode cX3_nearest 21 = .ok (.getfield 59, 3) := by decide +kernel
theorem dX3_nearest_24 : decode cX3_nearest 24 = .ok (.ifCond .le 5, 3) := by decide +kernel
theorem dX3_nearest_27 : decode cX3_nearest 27 = .ok (.iconst 0, 1) := by decide +kernel
theorem dX3_nearest_28 : decode cX3_nearest 28 = .ok (.ireturn, 1) := by decide +kernel
theorem dX3_nearest_29 : decode cX3_nearest 29 = .ok (.aload_n 0, 1) := by decide +kernel
theorem dX3_nearest_30 : decode cX3_nearest 30 = .ok (.iload_n 1, 1) := by decide +kernel
theorem dX3_nearest_31 : decode cX3_nearest 31 = .ok (.iload_n 2, 1) := by decide +kernel
theorem dX3_nearest_32 : decode cX3_nearest 32 = .ok (.iload_n 3, 1) := by decide +kernel
theorem dX3_nearest_33 : decode cX3_nearest 33 = .ok (.invokevirtual 116, 3) := by decide +kernel
theorem dX3_nearest_36 : decode cX3_nearest 36 = .ok (.iconst (-1), 1) := by decide +kernel
theorem dX3_nearest_37 : decode cX3_nearest 37 = .ok (.istore 4, 2) := by decide +kernel
theorem dX3_nearest_39 : decode cX3_nearest 39 = .ok (.iconst (-1), 1) := by decide +kernel
theorem dX3_nearest_40 : decode cX3_nearest 40 = .ok (.istore 5, 2) := by decide +kernel
theorem dX3_nearest_42 : decode cX3_nearest 42 = .ok (.iconst 0, 1) := by decide +kernel
theorem dX3_nearest_43 : decode cX3_nearest 43 = .ok (.istore 6, 2) := by decide +kernel
theorem dX3_nearest_45 : decode cX3_nearest 45 = .ok (.iload 6, 2) := by decide +kernel
theorem dX3_nearest_47 : decode cX3_nearest 47 = .ok (.aload_n 0, 1) := by decide +kernel
theorem dX3_nearest_48 : decode cX3_nearest 48 = .ok (.getfield 63, 3) := by decide +kernel
theorem dX3_nearest_51 : decode cX3_nearest 51 = .ok (.if_icmp .ge 104, 3) := by decide +kernel
theorem dX3_nearest_54 : decode cX3_nearest 54 = .ok (.iconst 0, 1) := by decide +kernel
theorem dX3_nearest_55 : decode cX3_nearest 55 = .ok (.istore 7, 2) := by decide +kernel
theorem dX3_nearest_57 : decode cX3_nearest 57 = .ok (.iconst 0, 1) := by decide +kernel
theorem dX3_nearest_58 : decode cX3_nearest 58 = .ok (.istore 8, 2) := by decide +kernel
theorem dX3_nearest_60 : decode cX3_nearest 60 = .ok (.iload 8, 2) := by decide +kernel
theorem dX3_nearest_62 : decode cX3_nearest 62 = .ok (.aload_n 0, 1) := by decide +kernel
theorem dX3_nearest_63 : decode cX3_nearest 63 = .ok (.getfield 138, 3) := by decide +kernel
theorem dX3_nearest_66 : decode cX3_nearest 66 = .ok (.if_icmp .ge 33, 3) := by decide +kernel
theorem dX3_nearest_69 : decode cX3_nearest 69 = .ok (.iload 7, 2) := by decide +kernel
theorem dX3_nearest_71 : decode cX3_nearest 71 = .ok (.ifCond .ne 15, 3) := by decide +kernel
theorem dX3_nearest_74 : decode cX3_nearest 74 = .ok (.aload_n 0, 1) := by decide +kernel
theorem dX3_nearest_75 : decode cX3_nearest 75 = .ok (.getfield 44, 3) := by decide +kernel
theorem dX3_nearest_78 : decode cX3_nearest 78 = .ok (.iload 8, 2) := by decide +kernel
theorem dX3_nearest_80 : decode cX3_nearest 80 = .ok (.iaload, 1) := by decide +kernel
theorem dX3_nearest_81 : decode cX3_nearest 81 = .ok (.iload 6, 2) := by decide +kernel
theorem dX3_nearest_83 : decode cX3_nearest 83 = .ok (.if_icmp .ne 7, 3) := by decide +kernel
theorem dX3_nearest_86 : decode cX3_nearest 86 = .ok (.iconst 1, 1) := by decide +kernel
theorem dX3_nearest_87 : decode cX3_nearest 87 = .ok (.goto 4, 3) := by decide +kernel
theorem dX3_nearest_90 : decode cX3_nearest 90 = .ok (.iconst 0, 1) := by decide +kernel
theorem dX3_nearest_91 : decode cX3_nearest 91 = .ok (.istore 7, 2) := by decide +kernel
theorem dX3_nearest_93 : decode cX3_nearest 93 = .ok (.iinc 8 1, 3) := by decide +kernel
theorem dX3_nearest_96 : decode cX3_nearest 96 = .ok (.goto (-36), 3) := by decide +kernel
theorem dX3_nearest_99 : decode cX3_nearest 99 = .ok (.iload 7, 2) := by decide +kernel
theorem dX3_nearest_101 : decode cX3_nearest 101 = .ok (.ifCond .eq 15, 3) := by decide +kernel
theorem dX3_nearest_104 : decode cX3_nearest 104 = .ok (.aload_n 0, 1) := by decide +kernel
theorem dX3_nearest_105 : decode cX3_nearest 105 = .ok (.iload_n 1, 1) := by decide +kernel
theorem dX3_nearest_106 : decode cX3_nearest 106 = .ok (.iload_n 2, 1) := by decide +kernel
theorem dX3_nearest_107 : decode cX3_nearest 107 = .ok (.iload 6, 2) := by decide +kernel
theorem dX3_nearest_109 : decode cX3_nearest 109 = .ok (.iload_n 3, 1) := by decide +kernel
theorem dX3_nearest_110 : decode cX3_nearest 110 = .ok (.invokevirtual 120, 3) := by decide +kernel
theorem dX3_nearest_113 : decode cX3_nearest 113 = .ok (.goto 4, 3) := by decide +kernel
theorem dX3_nearest_116 : decode cX3_nearest 116 = .ok (.iconst (-1), 1) := by decide +kernel
theorem dX3_nearest_117 : decode cX3_nearest 117 = .ok (.istore 8, 2) := by decide +kernel
theorem dX3_nearest_119 : decode cX3_nearest 119 = .ok (.iload 8, 2) := by decide +kernel
theorem dX3_nearest_121 : decode cX3_nearest 121 = .ok (.iconst (-1), 1) := by decide +kernel
theorem dX3_nearest_122 : decode cX3_nearest 122 = .ok (.if_icmp .eq 27, 3) := by decide +kernel
theorem dX3_nearest_125 : decode cX3_nearest 125 = .ok (.iload 4, 2) := by decide +kernel
theorem dX3_nearest_127 : decode cX3_nearest 127 = .ok (.iconst (-1), 1) := by decide +kernel
theorem dX3_nearest_128 : decode cX3_nearest 128 = .ok (.if_icmp .eq 13, 3) := by decide +kernel
theorem dX3_nearest_131 : decode cX3_nearest 131 = .ok (.iload 8, 2) := by decide +kernel
theorem dX3_nearest_133 : decode cX3_nearest 133 = .ok (.iload 5, 2) := by decide +kernel
theorem dX3_nearest_135 : decode cX3_nearest 135 = .ok (.if_icmp .lt 6, 3) := by decide +kernel
theorem dX3_nearest_138 : decode cX3_nearest 138 = .ok (.goto 11, 3) := by decide +kernel
theorem dX3_nearest_141 : decode cX3_nearest 141 = .ok (.iload 6, 2) := by decide +kernel
theorem dX3_nearest_143 : decode cX3_nearest 143 = .ok (.istore 4, 2) := by decide +kernel
theorem dX3_nearest_145 : decode cX3_nearest 145 = .ok (.iload 8, 2) := by decide +kernel
theorem dX3_nearest_147 : decode cX3_nearest 147 = .ok (.istore 5, 2) := by decide +kernel
theorem dX3_nearest_149 : decode cX3_nearest 149 = .ok (.iinc 6 1, 3) := by decide +kernel
theorem dX3_nearest_152 : decode cX3_nearest 152 = .ok (.goto (-107), 3) := by decide +kernel
theorem dX3_nearest_155 : decode cX3_nearest 155 = .ok (.iload 4, 2) := by decide +kernel
theorem dX3_nearest_157 : decode cX3_nearest 157 = .ok (.ireturn, 1) := by decide +kernel
set_option maxRecDepth 20000 in
theorem ggX3_table_X3_in : GoodIn wsX3_table wsX3_in := goodIn_r _ [11] (by decide +kernel) (by decide +kernel)
set_option maxRecDepth 20000 in
theorem gX3_table_X3_in : GoodIn wsX3_table (va_wsS RX3 66 yX3_in wsX3_in) := goodIn_app (goodIn_of _ (by decide +kernel)) ggX3_table_X3_in
set_option maxRecDepth 20000 in
theorem ggX3_table_X3_least : GoodIn wsX3_table wsX3_least := goodIn_r _ [15, 16, 17, 18, 10, 19, 20, 21, 22, 23, 24, 25, 26, 27, 28, 29, 30, 31, 32, 33, 34, 35, 36, 37, 38, 39, 40, 41, 42, 43, 44, 45, 46, 47, 48, 49, 50, 51, 52, 53, 54, 55, 56, 57, 58, 59, 60, 61, 62, 63, 64, 65, 66, 67, 68, 69, 70, 71, 72, 73, 74, 75, 76, 77, 78, 79, 80, 81, 82, 83, 84] (by decide +kernel) (by decide +kernel)
set_option maxRecDepth 20000 in
theorem gX3_table_X3_least : GoodIn wsX3_table (wsV RX3 126 RX3 yX3_least wsX3_least) := goodIn_app (goodIn_of _ (by decide +kernel)) ggX3_table_X3_least
theorem dX3_table_0 : decode cX3_table 0 = .ok (.aload_n 0, 1) := by decide +kernel
theorem dX3_table_1 : decode cX3_table 1 = .ok (.aload_n 0, 1) := by decide +kernel
theorem dX3_table_2 : decode cX3_table 2 = .ok (.getfield 92, 3) := by decide +kernel
theorem dX3_table_5 : decode cX3_table 5 = .ok (.ifCond .ne 7, 3) := by decide +kernel
theorem dX3_table_8 : decode cX3_table 8 = .ok (.iconst 1, 1) := by decide +kernel
theorem dX3_table_9 : decode cX3_table 9 = .ok (.goto 36, 3) := by decide +kernel
theorem dX3_table_12 : decode cX3_table 12 = .ok (.iload_n 1, 1) := by decide +kernel
theorem dX3_table_13 : decode cX3_table 13 = .ok (.iconst 0, 1) := by decide +kernel
theorem dX3_table_14 : decode cX3_table 14 = .ok (.aload_n 0, 1) := by decide +kernel
theorem dX3_table_15 : decode cX3_table 15 = .ok (.getfield 138, 3) := by decide +kernel
theorem dX3_table_18 : decode cX3_table 18 = .ok (.iconst 1, 1) := by decide +kernel
theorem dX3_table_19 : decode cX3_table 19 = .ok (.isub, 1) := by decide +kernel
theorem dX3_table_20 : decode cX3_table 20 = .ok (.invokestatic 66, 3) := by decide +kernel
theorem dX3_table_23 : decode cX3_table 23 = .ok (.ifCond .eq 17, 3) := by decide +kernel
theorem dX3_table_26 : decode cX3_table 26 = .ok (.iload_n 2, 1) := by decide +kernel
theorem dX3_table_27 : decode cX3_table 27 = .ok (.iconst 0, 1) := by decide +kernel
theorem dX3_table_28 : decode cX3_table 28 = .ok (.aload_n 0, 1) := by decide +kernel
theorem dX3_table_29 : decode cX3_table 29 = .ok (.getfield 138, 3) := by decide +kernel
theorem dX3_table_32 : decode cX3_table 32 = .ok (.iconst 1, 1) := by decide +kernel
theorem dX3_table_33 : decode cX3_table 33 = .ok (.isub, 1) := by decide +kernel
theorem dX3_table_34 : decode cX3_table 34 = .ok (.invokestatic 66, 3) := by decide +kernel
theorem dX3_table_37 : decode cX3_table 37 = .ok (.ifCond .ne 7, 3) := by decide +kernel
theorem dX3_table_40 : decode cX3_table 40 = .ok (.iconst 2, 1) := by decide +kernel
theorem dX3_table_41 : decode cX3_table 41 = .ok (.goto 4, 3) := by decide +kernel
theorem dX3_table_44 : decode cX3_table 44 = .ok (.iconst 0, 1) := by decide +kernel
theorem dX3_table_45 : decode cX3_table 45 = .ok (.putfield 59, 3) := by decide +kernel
theorem dX3_table_48 : decode cX3_table 48 = .ok (.aload_n 0, 1) := by decide +kernel
theorem dX3_table_49 : decode cX3_table 49 = .ok (.getfield 59, 3) := by decide +kernel
theorem dX3_table_52 : decode cX3_table 52 = .ok (.ifCond .le 5, 3) := by decide +kernel
theorem dX3_table_55 : decode cX3_table 55 = .ok (.iconst 0, 1) := by decide +kernel
theorem dX3_table_56 : decode cX3_table 56 = .ok (.ireturn, 1) := by decide +kernel
theorem dX3_table_57 : decode cX3_table 57 = .ok (.aload_n 0, 1) := by decide +kernel
theorem dX3_table_58 : decode cX3_table 58 = .ok (.getfield 47, 3) := by decide +kernel
theorem dX3_table_61 : decode cX3_table 61 = .ok (.iload_n 1, 1) := by decide +kernel
theorem dX3_table_62 : decode cX3_table 62 = .ok (.iaload, 1) := by decide +kernel
theorem dX3_table_63 : decode cX3_table 63 = .ok (.aload_n 0, 1) := by decide +kernel
theorem dX3_table_64 : decode cX3_table 64 = .ok (.getfield 70, 3) := by decide +kernel
theorem dX3_table_67 : decode cX3_table 67 = .ok (.if_icmp .eq 23, 3) := by decide +kernel
theorem dX3_table_70 : decode cX3_table 70 = .ok (.aload_n 0, 1) := by decide +kernel
theorem dX3_table_71 : decode cX3_table 71 = .ok (.getfield 47, 3) := by decide +kernel
theorem dX3_table_74 : decode cX3_table 74 = .ok (.iload_n 1, 1) := by decide +kernel
theorem dX3_table_75 : decode cX3_table 75 = .ok (.aload_n 0, 1) := by decide +kernel
theorem dX3_table_76 : decode cX3_table 76 = .ok (.getfield 70, 3) := by decide +kernel
theorem dX3_table_79 : decode cX3_table 79 = .ok (.iastore, 1) := by decide +kernel
theorem dX3_table_80 : decode cX3_table 80 = .ok (.aload_n 0, 1) := by decide +kernel
theorem dX3_table_81 : decode cX3_table 81 = .ok (.dup, 1) := by decide +kernel
theorem dX3_table_82 : decode cX3_table 82 = .ok (.getfield 141, 3) := by decide +kernel
theorem dX3_table_85 : decode cX3_table 85 = .ok (.iconst 1, 1) := by decide +kernel
theorem dX3_table_86 : decode cX3_table 86 = .ok (.iadd, 1) := by decide +kernel
theorem dX3_table_87 : decode cX3_table 87 = .ok (.putfield 141, 3) := by decide +kernel
theorem dX3_table_90 : decode cX3_table 90 = .ok (.aload_n 0, 1) := by decide +kernel
theorem dX3_table_91 : decode cX3_table 91 = .ok (.iconst 0, 1) := by decide +kernel
theorem dX3_table_92 : decode cX3_table 92 = .ok (.aload_n 0, 1) := by decide +kernel
theorem dX3_table_93 : decode cX3_table 93 = .ok (.getfield 44, 3) := by decide +kernel
theorem dX3_table_96 : decode cX3_table 96 = .ok (.iload_n 1, 1) := by decide +kernel
theorem dX3_table_97 : decode cX3_table 97 = .ok (.iaload, 1) := by decide +kernel
theorem dX3_table_98 : decode cX3_table 98 = .ok (.aload_n 0, 1) := by decide +kernel
theorem dX3_table_99 : decode cX3_table 99 = .ok (.getfield 44, 3) := by decide +kernel
theorem dX3_table_102 : decode cX3_table 102 = .ok (.iload_n 2, 1) := by decide +kernel
theorem dX3_table_103 : decode cX3_table 103 = .ok (.iaload, 1) := by decide +kernel
theorem dX3_table_104 : decode cX3_table 104 = .ok (.bipush 12, 2) := by decide +kernel
theorem dX3_table_106 : decode cX3_table 106 = .ok (.invokevirtual 126, 3) := by decide +kernel
theorem dX3_table_109 : decode cX3_table 109 = .ok (.ireturn, 1) := by decide +kernel
theorem dX3_rows_0 : decode cX3_rows 0 = .ok (.aload_n 0, 1) := by decide +kernel
theorem dX3_rows_1 : decode cX3_rows 1 = .ok (.iconst 0, 1) := by decide +kernel
theorem dX3_rows_2 : decode cX3_rows 2 = .ok (.putfield 59, 3) := by decide +kernel
theorem dX3_rows_5 : decode cX3_rows 5 = .ok (.aload_n 0, 1) := by decide +kernel
theorem dX3_rows_6 : decode cX3_rows 6 = .ok (.getfield 141, 3) := by decide +kernel
theorem dX3_rows_9 : decode cX3_rows 9 = .ok (.ireturn, 1) := by decide +kernel
set_option maxRecDepth 20000 in
theorem ggX3_maySet_X3_mayGo : GoodIn wsX3_maySet wsX3_mayGo := goodIn_r _ [7, 8, 9, 10, 11, 6, 12, 13, 14, 15, 16, 17, 18, 19, 20, 21, 22, 1, 27, 28, 29, 30, 31, 32, 33, 34, 35, 36, 37, 38, 39, 40, 41, 42, 43, 44, 45, 46, 47, 48, 49, 50] (by decide +kernel) (by decide +kernel)
set_option maxRecDepth 20000 in
theorem gX3_maySet_X3_mayGo : GoodIn wsX3_maySet (wsV RX3 109 RX3 yX3_mayGo wsX3_mayGo) := goodIn_app (goodIn_of _ (by decide +kernel)) ggX3_maySet_X3_mayGo
set_option maxRecDepth 20000 in
theorem ggX3_maySet_X3_from : GoodIn wsX3_maySet wsX3_from := goodIn_r _ [26, 14, 13, 27, 28, 29, 30, 31, 32, 33, 34, 35, 36, 37, 38, 39, 40, 41, 42, 43, 44, 45, 46, 47, 48, 49, 50] (by decide +kernel) (by decide +kernel)
set_option maxRecDepth 20000 in
theorem gX3_maySet_X3_from : GoodIn wsX3_maySet (wsV RX3 106 RX3 yX3_from wsX3_from) := goodIn_app (goodIn_of _ (by decide +kernel)) ggX3_maySet_X3_from
set_option maxRecDepth 20000 in
theorem ggX3_maySet_X3_to : GoodIn wsX3_maySet wsX3_to := goodIn_r _ [12, 13, 14, 27, 28, 29, 30, 31, 32, 33, 34, 35, 36, 37, 38, 39, 40, 41, 42, 43, 44, 45, 46, 47, 48, 49, 50] (by decide +kernel) (by decide +kernel)
set_option maxRecDepth 20000 in
theorem gX3_maySet_X3_to : GoodIn wsX3_maySet (wsV RX3 95 RX3 yX3_to wsX3_to) := goodIn_app (goodIn_of _ (by decide +kernel)) ggX3_maySet_X3_to
theorem dX3_maySet_0 : decode cX3_maySet 0 = .ok (.iload 4, 2) := by decide +kernel
theorem dX3_maySet_2 : decode cX3_maySet 2 = .ok (.iconst 2, 1) := by decide +kernel
theorem dX3_maySet_3 : decode cX3_maySet 3 = .ok (.idiv, 1) := by decide +kernel
theorem dX3_maySet_4 : decode cX3_maySet 4 = .ok (.istore 6, 2) := by decide +kernel
theorem dX3_maySet_6 : decode cX3_maySet 6 = .ok (.iload 4, 2) := by decide +kernel
theorem dX3_maySet_8 : decode cX3_maySet 8 = .ok (.iconst 2, 1) := by decide +kernel
theorem dX3_maySet_9 : decode cX3_maySet 9 = .ok (.irem, 1) := by decide +kernel
theorem dX3_maySet_10 : decode cX3_maySet 10 = .ok (.istore 7, 2) := by decide +kernel
theorem dX3_maySet_12 : decode cX3_maySet 12 = .ok (.aload_n 0, 1) := by decide +kernel
theorem dX3_maySet_13 : decode cX3_maySet 13 = .ok (.iload_n 1, 1) := by decide +kernel
theorem dX3_maySet_14 : decode cX3_maySet 14 = .ok (.iload 6, 2) := by decide +kernel
theorem dX3_maySet_16 : decode cX3_maySet 16 = .ok (.iload 7, 2) := by decide +kernel
theorem dX3_maySet_18 : decode cX3_maySet 18 = .ok (.iload 5, 2) := by decide +kernel
theorem dX3_maySet_20 : decode cX3_maySet 20 = .ok (.invokevirtual 109, 3) := by decide +kernel
theorem dX3_maySet_23 : decode cX3_maySet 23 = .ok (.ifCond .ne 5, 3) := by decide +kernel
theorem dX3_maySet_26 : decode cX3_maySet 26 = .ok (.iconst 0, 1) := by decide +kernel
theorem dX3_maySet_27 : decode cX3_maySet 27 = .ok (.ireturn, 1) := by decide +kernel
theorem dX3_maySet_28 : decode cX3_maySet 28 = .ok (.aload_n 0, 1) := by decide +kernel
theorem dX3_maySet_29 : decode cX3_maySet 29 = .ok (.iload 6, 2) := by decide +kernel
theorem dX3_maySet_31 : decode cX3_maySet 31 = .ok (.iload 7, 2) := by decide +kernel
theorem dX3_maySet_33 : decode cX3_maySet 33 = .ok (.invokevirtual 106, 3) := by decide +kernel
theorem dX3_maySet_36 : decode cX3_maySet 36 = .ok (.istore 8, 2) := by decide +kernel
theorem dX3_maySet_38 : decode cX3_maySet 38 = .ok (.iload_n 3, 1) := by decide +kernel
theorem dX3_maySet_39 : decode cX3_maySet 39 = .ok (.ifCond .ne 36, 3) := by decide +kernel
theorem dX3_maySet_42 : decode cX3_maySet 42 = .ok (.iload 8, 2) := by decide +kernel
theorem dX3_maySet_44 : decode cX3_maySet 44 = .ok (.iconst 2, 1) := by decide +kernel
theorem dX3_maySet_45 : decode cX3_maySet 45 = .ok (.idiv, 1) := by decide +kernel
theorem dX3_maySet_46 : decode cX3_maySet 46 = .ok (.iload_n 2, 1) := by decide +kernel
theorem dX3_maySet_47 : decode cX3_maySet 47 = .ok (.if_icmp .ne 24, 3) := by decide +kernel
theorem dX3_maySet_50 : decode cX3_maySet 50 = .ok (.iload 8, 2) := by decide +kernel
theorem dX3_maySet_52 : decode cX3_maySet 52 = .ok (.iconst 2, 1) := by decide +kernel
theorem dX3_maySet_53 : decode cX3_maySet 53 = .ok (.irem, 1) := by decide +kernel
theorem dX3_maySet_54 : decode cX3_maySet 54 = .ok (.iconst 1, 1) := by decide +kernel
theorem dX3_maySet_55 : decode cX3_maySet 55 = .ok (.if_icmp .eq 12, 3) := by decide +kernel
theorem dX3_maySet_58 : decode cX3_maySet 58 = .ok (.aload_n 0, 1) := by decide +kernel
theorem dX3_maySet_59 : decode cX3_maySet 59 = .ok (.getfield 19, 3) := by decide +kernel
theorem dX3_maySet_62 : decode cX3_maySet 62 = .ok (.iload_n 2, 1) := by decide +kernel
theorem dX3_maySet_63 : decode cX3_maySet 63 = .ok (.baload, 1) := by decide +kernel
theorem dX3_maySet_64 : decode cX3_maySet 64 = .ok (.ifCond .eq 7, 3) := by decide +kernel
theorem dX3_maySet_67 : decode cX3_maySet 67 = .ok (.iconst 1, 1) := by decide +kernel
theorem dX3_maySet_68 : decode cX3_maySet 68 = .ok (.goto 43, 3) := by decide +kernel
theorem dX3_maySet_71 : decode cX3_maySet 71 = .ok (.iconst 0, 1) := by decide +kernel
theorem dX3_maySet_72 : decode cX3_maySet 72 = .ok (.goto 39, 3) := by decide +kernel
theorem dX3_maySet_75 : decode cX3_maySet 75 = .ok (.iload 8, 2) := by decide +kernel
theorem dX3_maySet_77 : decode cX3_maySet 77 = .ok (.aload_n 0, 1) := by decide +kernel
theorem dX3_maySet_78 : decode cX3_maySet 78 = .ok (.aload_n 0, 1) := by decide +kernel
theorem dX3_maySet_79 : decode cX3_maySet 79 = .ok (.getfield 56, 3) := by decide +kernel
theorem dX3_maySet_82 : decode cX3_maySet 82 = .ok (.iload_n 3, 1) := by decide +kernel
theorem dX3_maySet_83 : decode cX3_maySet 83 = .ok (.iconst 1, 1) := by decide +kernel
theorem dX3_maySet_84 : decode cX3_maySet 84 = .ok (.isub, 1) := by decide +kernel
theorem dX3_maySet_85 : decode cX3_maySet 85 = .ok (.iaload, 1) := by decide +kernel
theorem dX3_maySet_86 : decode cX3_maySet 86 = .ok (.iconst 2, 1) := by decide +kernel
theorem dX3_maySet_87 : decode cX3_maySet 87 = .ok (.idiv, 1) := by decide +kernel
theorem dX3_maySet_88 : decode cX3_maySet 88 = .ok (.aload_n 0, 1) := by decide +kernel
theorem dX3_maySet_89 : decode cX3_maySet 89 = .ok (.getfield 56, 3) := by decide +kernel
theorem dX3_maySet_92 : decode cX3_maySet 92 = .ok (.iload_n 3, 1) := by decide +kernel
theorem dX3_maySet_93 : decode cX3_maySet 93 = .ok (.iconst 1, 1) := by decide +kernel
theorem dX3_maySet_94 : decode cX3_maySet 94 = .ok (.isub, 1) := by decide +kernel
theorem dX3_maySet_95 : decode cX3_maySet 95 = .ok (.iaload, 1) := by decide +kernel
theorem dX3_maySet_96 : decode cX3_maySet 96 = .ok (.iconst 2, 1) := by decide +kernel
theorem dX3_maySet_97 : decode cX3_maySet 97 = .ok (.irem, 1) := by decide +kernel
theorem dX3_maySet_98 : decode cX3_maySet 98 = .ok (.invokevirtual 95, 3) := by decide +kernel
theorem dX3_maySet_101 : decode cX3_maySet 101 = .ok (.iconst 1, 1) := by decide +kernel
theorem dX3_maySet_102 : decode cX3_maySet 102 = .ok (.ixor, 1) := by decide +kernel
theorem dX3_maySet_103 : decode cX3_maySet 103 = .ok (.if_icmp .ne 7, 3) := by decide +kernel
theorem dX3_maySet_106 : decode cX3_maySet 106 = .ok (.iconst 1, 1) := by decide +kernel
theorem dX3_maySet_107 : decode cX3_maySet 107 = .ok (.goto 4, 3) := by decide +kernel
theorem dX3_maySet_110 : decode cX3_maySet 110 = .ok (.iconst 0, 1) := by decide +kernel
theorem dX3_maySet_111 : decode cX3_maySet 111 = .ok (.istore 9, 2) := by decide +kernel
theorem dX3_maySet_113 : decode cX3_maySet 113 = .ok (.aload_n 0, 1) := by decide +kernel
theorem dX3_maySet_114 : decode cX3_maySet 114 = .ok (.iload 6, 2) := by decide +kernel
theorem dX3_maySet_116 : decode cX3_maySet 116 = .ok (.iload 7, 2) := by decide +kernel
theorem dX3_maySet_118 : decode cX3_maySet 118 = .ok (.invokevirtual 95, 3) := by decide +kernel
theorem dX3_maySet_121 : decode cX3_maySet 121 = .ok (.iconst 2, 1) := by decide +kernel
theorem dX3_maySet_122 : decode cX3_maySet 122 = .ok (.idiv, 1) := by decide +kernel
theorem dX3_maySet_123 : decode cX3_maySet 123 = .ok (.istore 10, 2) := by decide +kernel
theorem dX3_maySet_125 : decode cX3_maySet 125 = .ok (.iload 10, 2) := by decide +kernel
theorem dX3_maySet_127 : decode cX3_maySet 127 = .ok (.iload_n 2, 1) := by decide +kernel
