theorem dX3_lift_43 : decode cX3_lift 43 = .ok (.iaload, 1) := by decide +kernel
theorem dX3_lift_44 : decode cX3_lift 44 = .ok (.aload_n 0, 1) := by decide +kernel
theorem dX3_lift_45 : decode cX3_lift 45 = .ok (.getfield 7, 3) := by decide +kernel
theorem dX3_lift_48 : decode cX3_lift 48 = .ok (.iload_n 2, 1) := by decide +kernel
theorem dX3_lift_49 : decode cX3_lift 49 = .ok (.iaload, 1) := by decide +kernel
theorem dX3_lift_50 : decode cX3_lift 50 = .ok (.if_icmp .eq 7, 3) := by decide +kernel
theorem dX3_lift_53 : decode cX3_lift 53 = .ok (.iconst 1, 1) := by decide +kernel
theorem dX3_lift_54 : decode cX3_lift 54 = .ok (.goto 4, 3) := by decide +kernel
theorem dX3_lift_57 : decode cX3_lift 57 = .ok (.iconst 0, 1) := by decide +kernel
theorem dX3_lift_58 : decode cX3_lift 58 = .ok (.istore 4, 2) := by decide +kernel
theorem dX3_lift_60 : decode cX3_lift 60 = .ok (.aload_n 0, 1) := by decide +kernel
theorem dX3_lift_61 : decode cX3_lift 61 = .ok (.iload 4, 2) := by decide +kernel
theorem dX3_lift_63 : decode cX3_lift 63 = .ok (.ifCond .ne 7, 3) := by decide +kernel
theorem dX3_lift_66 : decode cX3_lift 66 = .ok (.iconst 1, 1) := by decide +kernel
theorem dX3_lift_67 : decode cX3_lift 67 = .ok (.goto 17, 3) := by decide +kernel
theorem dX3_lift_70 : decode cX3_lift 70 = .ok (.aload_n 0, 1) := by decide +kernel
theorem dX3_lift_71 : decode cX3_lift 71 = .ok (.getfield 73, 3) := by decide +kernel
theorem dX3_lift_74 : decode cX3_lift 74 = .ok (.bipush 40, 2) := by decide +kernel
theorem dX3_lift_76 : decode cX3_lift 76 = .ok (.if_icmp .ne 7, 3) := by decide +kernel
theorem dX3_lift_79 : decode cX3_lift 79 = .ok (.iconst 2, 1) := by decide +kernel
theorem dX3_lift_80 : decode cX3_lift 80 = .ok (.goto 4, 3) := by decide +kernel
theorem dX3_lift_83 : decode cX3_lift 83 = .ok (.iconst 0, 1) := by decide +kernel
theorem dX3_lift_84 : decode cX3_lift 84 = .ok (.putfield 59, 3) := by decide +kernel
theorem dX3_lift_87 : decode cX3_lift 87 = .ok (.aload_n 0, 1) := by decide +kernel
theorem dX3_lift_88 : decode cX3_lift 88 = .ok (.getfield 59, 3) := by decide +kernel
theorem dX3_lift_91 : decode cX3_lift 91 = .ok (.ifCond .le 7, 3) := by decide +kernel
theorem dX3_lift_94 : decode cX3_lift 94 = .ok (.iconst 0, 1) := by decide +kernel
theorem dX3_lift_95 : decode cX3_lift 95 = .ok (.goto 18, 3) := by decide +kernel
theorem dX3_lift_98 : decode cX3_lift 98 = .ok (.aload_n 0, 1) := by decide +kernel
theorem dX3_lift_99 : decode cX3_lift 99 = .ok (.iconst 2, 1) := by decide +kernel
theorem dX3_lift_100 : decode cX3_lift 100 = .ok (.iload_n 1, 1) := by decide +kernel
theorem dX3_lift_101 : decode cX3_lift 101 = .ok (.imul, 1) := by decide +kernel
theorem dX3_lift_102 : decode cX3_lift 102 = .ok (.iconst 1, 1) := by decide +kernel
theorem dX3_lift_103 : decode cX3_lift 103 = .ok (.iadd, 1) := by decide +kernel
theorem dX3_lift_104 : decode cX3_lift 104 = .ok (.iconst 2, 1) := by decide +kernel
theorem dX3_lift_105 : decode cX3_lift 105 = .ok (.iload_n 2, 1) := by decide +kernel
theorem dX3_lift_106 : decode cX3_lift 106 = .ok (.imul, 1) := by decide +kernel
theorem dX3_lift_107 : decode cX3_lift 107 = .ok (.iconst 1, 1) := by decide +kernel
theorem dX3_lift_108 : decode cX3_lift 108 = .ok (.iadd, 1) := by decide +kernel
theorem dX3_lift_109 : decode cX3_lift 109 = .ok (.iload_n 3, 1) := by decide +kernel
theorem dX3_lift_110 : decode cX3_lift 110 = .ok (.invokevirtual 80, 3) := by decide +kernel
theorem dX3_lift_113 : decode cX3_lift 113 = .ok (.ireturn, 1) := by decide +kernel
theorem dX3_bits_0 : decode cX3_bits 0 = .ok (.iconst 0, 1) := by decide +kernel
theorem dX3_bits_1 : decode cX3_bits 1 = .ok (.istore_n 1, 1) := by decide +kernel
theorem dX3_bits_2 : decode cX3_bits 2 = .ok (.iconst 0, 1) := by decide +kernel
theorem dX3_bits_3 : decode cX3_bits 3 = .ok (.istore_n 2, 1) := by decide +kernel
theorem dX3_bits_4 : decode cX3_bits 4 = .ok (.iload_n 2, 1) := by decide +kernel
theorem dX3_bits_5 : decode cX3_bits 5 = .ok (.bipush 24, 2) := by decide +kernel
theorem dX3_bits_7 : decode cX3_bits 7 = .ok (.if_icmp .ge 17, 3) := by decide +kernel
theorem dX3_bits_10 : decode cX3_bits 10 = .ok (.iload_n 1, 1) := by decide +kernel
theorem dX3_bits_11 : decode cX3_bits 11 = .ok (.iload_n 0, 1) := by decide +kernel
theorem dX3_bits_12 : decode cX3_bits 12 = .ok (.iload_n 2, 1) := by decide +kernel
theorem dX3_bits_13 : decode cX3_bits 13 = .ok (.ishr, 1) := by decide +kernel
theorem dX3_bits_14 : decode cX3_bits 14 = .ok (.iconst 1, 1) := by decide +kernel
theorem dX3_bits_15 : decode cX3_bits 15 = .ok (.iand, 1) := by decide +kernel
theorem dX3_bits_16 : decode cX3_bits 16 = .ok (.iadd, 1) := by decide +kernel
theorem dX3_bits_17 : decode cX3_bits 17 = .ok (.istore_n 1, 1) := by decide +kernel
theorem dX3_bits_18 : decode cX3_bits 18 = .ok (.iinc 2 1, 3) := by decide +kernel
theorem dX3_bits_21 : decode cX3_bits 21 = .ok (.goto (-17), 3) := by decide +kernel
theorem dX3_bits_24 : decode cX3_bits 24 = .ok (.iload_n 1, 1) := by decide +kernel
theorem dX3_bits_25 : decode cX3_bits 25 = .ok (.ireturn, 1) := by decide +kernel
theorem dX3_with_0 : decode cX3_with 0 = .ok (.iload_n 2, 1) := by decide +kernel
theorem dX3_with_1 : decode cX3_with 1 = .ok (.ifCond .eq 11, 3) := by decide +kernel
theorem dX3_with_4 : decode cX3_with 4 = .ok (.iload_n 0, 1) := by decide +kernel
theorem dX3_with_5 : decode cX3_with 5 = .ok (.iconst 1, 1) := by decide +kernel
theorem dX3_with_6 : decode cX3_with 6 = .ok (.iload_n 1, 1) := by decide +kernel
theorem dX3_with_7 : decode cX3_with 7 = .ok (.ishl, 1) := by decide +kernel
theorem dX3_with_8 : decode cX3_with 8 = .ok (.ior, 1) := by decide +kernel
theorem dX3_with_9 : decode cX3_with 9 = .ok (.goto 10, 3) := by decide +kernel
theorem dX3_with_12 : decode cX3_with 12 = .ok (.iload_n 0, 1) := by decide +kernel
theorem dX3_with_13 : decode cX3_with 13 = .ok (.iconst 1, 1) := by decide +kernel
theorem dX3_with_14 : decode cX3_with 14 = .ok (.iload_n 1, 1) := by decide +kernel
theorem dX3_with_15 : decode cX3_with 15 = .ok (.ishl, 1) := by decide +kernel
theorem dX3_with_16 : decode cX3_with 16 = .ok (.iconst (-1), 1) := by decide +kernel
theorem dX3_with_17 : decode cX3_with 17 = .ok (.ixor, 1) := by decide +kernel
theorem dX3_with_18 : decode cX3_with 18 = .ok (.iand, 1) := by decide +kernel
theorem dX3_with_19 : decode cX3_with 19 = .ok (.ireturn, 1) := by decide +kernel
set_option maxRecDepth 20000 in
theorem ggX3_turn_X3_in : GoodIn wsX3_turn wsX3_in := goodIn_r _ [8] (by decide +kernel) (by decide +kernel)
set_option maxRecDepth 20000 in
theorem gX3_turn_X3_in : GoodIn wsX3_turn (va_wsS RX3 66 yX3_in wsX3_in) := goodIn_app (goodIn_of _ (by decide +kernel)) ggX3_turn_X3_in
set_option maxRecDepth 20000 in
theorem ggX3_turn_X3_with : GoodIn wsX3_turn wsX3_with := goodIn_r _ [11] (by decide +kernel) (by decide +kernel)
set_option maxRecDepth 20000 in
theorem gX3_turn_X3_with : GoodIn wsX3_turn (va_wsS RX3 84 yX3_with wsX3_with) := goodIn_app (goodIn_of _ (by decide +kernel)) ggX3_turn_X3_with
set_option maxRecDepth 20000 in
theorem ggX3_turn_X3_bits : GoodIn wsX3_turn wsX3_bits := goodIn_r _ [14] (by decide +kernel) (by decide +kernel)
set_option maxRecDepth 20000 in
theorem gX3_turn_X3_bits : GoodIn wsX3_turn (va_wsS RX3 88 yX3_bits wsX3_bits) := goodIn_app (goodIn_of _ (by decide +kernel)) ggX3_turn_X3_bits
theorem dX3_turn_0 : decode cX3_turn 0 = .ok (.aload_n 0, 1) := by decide +kernel
theorem dX3_turn_1 : decode cX3_turn 1 = .ok (.iload_n 1, 1) := by decide +kernel
theorem dX3_turn_2 : decode cX3_turn 2 = .ok (.iconst 0, 1) := by decide +kernel
theorem dX3_turn_3 : decode cX3_turn 3 = .ok (.aload_n 0, 1) := by decide +kernel
theorem dX3_turn_4 : decode cX3_turn 4 = .ok (.getfield 73, 3) := by decide +kernel
theorem dX3_turn_7 : decode cX3_turn 7 = .ok (.iconst 1, 1) := by decide +kernel
theorem dX3_turn_8 : decode cX3_turn 8 = .ok (.isub, 1) := by decide +kernel
theorem dX3_turn_9 : decode cX3_turn 9 = .ok (.invokestatic 66, 3) := by decide +kernel
theorem dX3_turn_12 : decode cX3_turn 12 = .ok (.ifCond .eq 12, 3) := by decide +kernel
theorem dX3_turn_15 : decode cX3_turn 15 = .ok (.iload_n 2, 1) := by decide +kernel
theorem dX3_turn_16 : decode cX3_turn 16 = .ok (.iconst 0, 1) := by decide +kernel
theorem dX3_turn_17 : decode cX3_turn 17 = .ok (.iconst 1, 1) := by decide +kernel
theorem dX3_turn_18 : decode cX3_turn 18 = .ok (.invokestatic 66, 3) := by decide +kernel
theorem dX3_turn_21 : decode cX3_turn 21 = .ok (.ifCond .ne 7, 3) := by decide +kernel
theorem dX3_turn_24 : decode cX3_turn 24 = .ok (.iconst 1, 1) := by decide +kernel
theorem dX3_turn_25 : decode cX3_turn 25 = .ok (.goto 4, 3) := by decide +kernel
theorem dX3_turn_28 : decode cX3_turn 28 = .ok (.iconst 0, 1) := by decide +kernel
theorem dX3_turn_29 : decode cX3_turn 29 = .ok (.putfield 59, 3) := by decide +kernel
theorem dX3_turn_32 : decode cX3_turn 32 = .ok (.aload_n 0, 1) := by decide +kernel
theorem dX3_turn_33 : decode cX3_turn 33 = .ok (.getfield 59, 3) := by decide +kernel
theorem dX3_turn_36 : decode cX3_turn 36 = .ok (.ifCond .le 5, 3) := by decide +kernel
theorem dX3_turn_39 : decode cX3_turn 39 = .ok (.iconst 0, 1) := by decide +kernel
theorem dX3_turn_40 : decode cX3_turn 40 = .ok (.ireturn, 1) := by decide +kernel
theorem dX3_turn_41 : decode cX3_turn 41 = .ok (.aload_n 0, 1) := by decide +kernel
theorem dX3_turn_42 : decode cX3_turn 42 = .ok (.getfield 38, 3) := by decide +kernel
theorem dX3_turn_45 : decode cX3_turn 45 = .ok (.iload_n 1, 1) := by decide +kernel
theorem dX3_turn_46 : decode cX3_turn 46 = .ok (.aload_n 0, 1) := by decide +kernel
theorem dX3_turn_47 : decode cX3_turn 47 = .ok (.getfield 38, 3) := by decide +kernel
theorem dX3_turn_50 : decode cX3_turn 50 = .ok (.iload_n 1, 1) := by decide +kernel
theorem dX3_turn_51 : decode cX3_turn 51 = .ok (.iaload, 1) := by decide +kernel
theorem dX3_turn_52 : decode cX3_turn 52 = .ok (.iload_n 2, 1) := by decide +kernel
theorem dX3_turn_53 : decode cX3_turn 53 = .ok (.iload_n 3, 1) := by decide +kernel
theorem dX3_turn_54 : decode cX3_turn 54 = .ok (.invokestatic 84, 3) := by decide +kernel
theorem dX3_turn_57 : decode cX3_turn 57 = .ok (.iastore, 1) := by decide +kernel
theorem dX3_turn_58 : decode cX3_turn 58 = .ok (.aload_n 0, 1) := by decide +kernel
theorem dX3_turn_59 : decode cX3_turn 59 = .ok (.dup, 1) := by decide +kernel
theorem dX3_turn_60 : decode cX3_turn 60 = .ok (.getfield 70, 3) := by decide +kernel
theorem dX3_turn_63 : decode cX3_turn 63 = .ok (.iconst 1, 1) := by decide +kernel
theorem dX3_turn_64 : decode cX3_turn 64 = .ok (.iadd, 1) := by decide +kernel
theorem dX3_turn_65 : decode cX3_turn 65 = .ok (.putfield 70, 3) := by decide +kernel
theorem dX3_turn_68 : decode cX3_turn 68 = .ok (.aload_n 0, 1) := by decide +kernel
theorem dX3_turn_69 : decode cX3_turn 69 = .ok (.getfield 38, 3) := by decide +kernel
theorem dX3_turn_72 : decode cX3_turn 72 = .ok (.iload_n 1, 1) := by decide +kernel
theorem dX3_turn_73 : decode cX3_turn 73 = .ok (.iaload, 1) := by decide +kernel
theorem dX3_turn_74 : decode cX3_turn 74 = .ok (.invokestatic 88, 3) := by decide +kernel
theorem dX3_turn_77 : decode cX3_turn 77 = .ok (.ireturn, 1) := by decide +kernel
set_option maxRecDepth 20000 in
theorem ggX3_width_X3_isPiece : GoodIn wsX3_width wsX3_isPiece := goodIn_r _ [8, 9, 10, 11, 7, 12, 13, 14, 15, 16, 17, 18, 19, 20, 21, 22, 23, 24, 25, 26, 27, 28, 29, 30, 31, 32, 33, 34, 35, 36] (by decide +kernel) (by decide +kernel)
set_option maxRecDepth 20000 in
theorem gX3_width_X3_isPiece : GoodIn wsX3_width (wsV RX3 76 RX3 yX3_isPiece wsX3_isPiece) := goodIn_app (goodIn_of _ (by decide +kernel)) ggX3_width_X3_isPiece
set_option maxRecDepth 20000 in
theorem ggX3_width_X3_in : GoodIn wsX3_width wsX3_in := goodIn_r _ [12] (by decide +kernel) (by decide +kernel)
set_option maxRecDepth 20000 in
theorem gX3_width_X3_in : GoodIn wsX3_width (va_wsS RX3 66 yX3_in wsX3_in) := goodIn_app (goodIn_of _ (by decide +kernel)) ggX3_width_X3_in
theorem dX3_width_0 : decode cX3_width 0 = .ok (.aload_n 0, 1) := by decide +kernel
theorem dX3_width_1 : decode cX3_width 1 = .ok (.aload_n 0, 1) := by decide +kernel
theorem dX3_width_2 : decode cX3_width 2 = .ok (.iload_n 1, 1) := by decide +kernel
theorem dX3_width_3 : decode cX3_width 3 = .ok (.invokevirtual 76, 3) := by decide +kernel
theorem dX3_width_6 : decode cX3_width 6 = .ok (.ifCond .eq 14, 3) := by decide +kernel
theorem dX3_width_9 : decode cX3_width 9 = .ok (.iload_n 2, 1) := by decide +kernel
theorem dX3_width_10 : decode cX3_width 10 = .ok (.iconst 1, 1) := by decide +kernel
theorem dX3_width_11 : decode cX3_width 11 = .ok (.sipush 500, 3) := by decide +kernel
theorem dX3_width_14 : decode cX3_width 14 = .ok (.invokestatic 66, 3) := by decide +kernel
theorem dX3_width_17 : decode cX3_width 17 = .ok (.ifCond .ne 7, 3) := by decide +kernel
theorem dX3_width_20 : decode cX3_width 20 = .ok (.iconst 1, 1) := by decide +kernel
theorem dX3_width_21 : decode cX3_width 21 = .ok (.goto 4, 3) := by decide +kernel
theorem dX3_width_24 : decode cX3_width 24 = .ok (.iconst 0, 1) := by decide +kernel
theorem dX3_width_25 : decode cX3_width 25 = .ok (.putfield 59, 3) := by decide +kernel
theorem dX3_width_28 : decode cX3_width 28 = .ok (.aload_n 0, 1) := by decide +kernel
theorem dX3_width_29 : decode cX3_width 29 = .ok (.getfield 59, 3) := by decide +kernel
theorem dX3_width_32 : decode cX3_width 32 = .ok (.ifCond .le 4, 3) := by decide +kernel
theorem dX3_width_35 : decode cX3_width 35 = .ok (.return_, 1) := by decide +kernel
theorem dX3_width_36 : decode cX3_width 36 = .ok (.aload_n 0, 1) := by decide +kernel
theorem dX3_width_37 : decode cX3_width 37 = .ok (.getfield 16, 3) := by decide +kernel
theorem dX3_width_40 : decode cX3_width 40 = .ok (.iload_n 1, 1) := by decide +kernel
theorem dX3_width_41 : decode cX3_width 41 = .ok (.iload_n 2, 1) := by decide +kernel
theorem dX3_width_42 : decode cX3_width 42 = .ok (.iastore, 1) := by decide +kernel
theorem dX3_width_43 : decode cX3_width 43 = .ok (.aload_n 0, 1) := by decide +kernel
theorem dX3_width_44 : decode cX3_width 44 = .ok (.dup, 1) := by decide +kernel
theorem dX3_width_45 : decode cX3_width 45 = .ok (.getfield 70, 3) := by decide +kernel
theorem dX3_width_48 : decode cX3_width 48 = .ok (.iconst 1, 1) := by decide +kernel
theorem dX3_width_49 : decode cX3_width 49 = .ok (.iadd, 1) := by decide +kernel
theorem dX3_width_50 : decode cX3_width 50 = .ok (.putfield 70, 3) := by decide +kernel
theorem dX3_width_53 : decode cX3_width 53 = .ok (.return_, 1) := by decide +kernel
set_option maxRecDepth 20000 in
theorem ggX3_zone_X3_isPiece : GoodIn wsX3_zone wsX3_isPiece := goodIn_r _ [8, 9, 10, 11, 7, 12, 19, 20, 21, 22, 23, 24, 25, 26, 27, 28, 29, 30, 31, 32, 33, 34, 35, 36, 37, 38, 39, 40, 41, 42] (by decide +kernel) (by decide +kernel)
set_option maxRecDepth 20000 in
theorem gX3_zone_X3_isPiece : GoodIn wsX3_zone (wsV RX3 76 RX3 yX3_isPiece wsX3_isPiece) := goodIn_app (goodIn_of _ (by decide +kernel)) ggX3_zone_X3_isPiece
set_option maxRecDepth 20000 in
theorem ggX3_zone_X3_in : GoodIn wsX3_zone wsX3_in := goodIn_r _ [12] (by decide +kernel) (by decide +kernel)
set_option maxRecDepth 20000 in
theorem gX3_zone_X3_in : GoodIn wsX3_zone (va_wsS RX3 66 yX3_in wsX3_in) := goodIn_app (goodIn_of _ (by decide +kernel)) ggX3_zone_X3_in
set_option maxRecDepth 20000 in
theorem ggX3_zone_X3_with : GoodIn wsX3_zone wsX3_with := goodIn_r _ [15] (by decide +kernel) (by decide +kernel)
set_option maxRecDepth 20000 in
theorem gX3_zone_X3_with : GoodIn wsX3_zone (va_wsS RX3 84 yX3_with wsX3_with) := goodIn_app (goodIn_of _ (by decide +kernel)) ggX3_zone_X3_with
set_option maxRecDepth 20000 in
theorem ggX3_zone_X3_bits : GoodIn wsX3_zone wsX3_bits := goodIn_r _ [18] (by decide +kernel) (by decide +kernel)
set_option maxRecDepth 20000 in
theorem gX3_zone_X3_bits : GoodIn wsX3_zone (va_wsS RX3 88 yX3_bits wsX3_bits) := goodIn_app (goodIn_of _ (by decide +kernel)) ggX3_zone_X3_bits
theorem dX3_zone_0 : decode cX3_zone 0 = .ok (.aload_n 0, 1) := by decide +kernel
theorem dX3_zone_1 : decode cX3_zone 1 = .ok (.aload_n 0, 1) := by decide +kernel
theorem dX3_zone_2 : decode cX3_zone 2 = .ok (.iload_n 1, 1) := by decide +kernel
theorem dX3_zone_3 : decode cX3_zone 3 = .ok (.invokevirtual 76, 3) := by decide +kernel
theorem dX3_zone_6 : decode cX3_zone 6 = .ok (.ifCond .eq 13, 3) := by decide +kernel
theorem dX3_zone_9 : decode cX3_zone 9 = .ok (.iload_n 2, 1) := by decide +kernel
theorem dX3_zone_10 : decode cX3_zone 10 = .ok (.iconst 0, 1) := by decide +kernel
theorem dX3_zone_11 : decode cX3_zone 11 = .ok (.bipush 23, 2) := by decide +kernel
theorem dX3_zone_13 : decode cX3_zone 13 = .ok (.invokestatic 66, 3) := by decide +kernel
theorem dX3_zone_16 : decode cX3_zone 16 = .ok (.ifCond .ne 7, 3) := by decide +kernel
theorem dX3_zone_19 : decode cX3_zone 19 = .ok (.iconst 1, 1) := by decide +kernel
theorem dX3_zone_20 : decode cX3_zone 20 = .ok (.goto 4, 3) := by decide +kernel
theorem dX3_zone_23 : decode cX3_zone 23 = .ok (.iconst 0, 1) := by decide +kernel
theorem dX3_zone_24 : decode cX3_zone 24 = .ok (.putfield 59, 3) := by decide +kernel
theorem dX3_zone_27 : decode cX3_zone 27 = .ok (.aload_n 0, 1) := by decide +kernel
theorem dX3_zone_28 : decode cX3_zone 28 = .ok (.getfield 59, 3) := by decide +kernel
theorem dX3_zone_31 : decode cX3_zone 31 = .ok (.ifCond .le 5, 3) := by decide +kernel
theorem dX3_zone_34 : decode cX3_zone 34 = .ok (.iconst 0, 1) := by decide +kernel
theorem dX3_zone_35 : decode cX3_zone 35 = .ok (.ireturn, 1) := by decide +kernel
theorem dX3_zone_36 : decode cX3_zone 36 = .ok (.aload_n 0, 1) := by decide +kernel
theorem dX3_zone_37 : decode cX3_zone 37 = .ok (.getfield 26, 3) := by decide +kernel
theorem dX3_zone_40 : decode cX3_zone 40 = .ok (.iload_n 1, 1) := by decide +kernel
theorem dX3_zone_41 : decode cX3_zone 41 = .ok (.aload_n 0, 1) := by decide +kernel
theorem dX3_zone_42 : decode cX3_zone 42 = .ok (.getfield 26, 3) := by decide +kernel
theorem dX3_zone_45 : decode cX3_zone 45 = .ok (.iload_n 1, 1) := by decide +kernel
theorem dX3_zone_46 : decode cX3_zone 46 = .ok (.iaload, 1) := by decide +kernel
theorem dX3_zone_47 : decode cX3_zone 47 = .ok (.iload_n 2, 1) := by decide +kernel
theorem dX3_zone_48 : decode cX3_zone 48 = .ok (.iload_n 3, 1) := by decide +kernel
theorem dX3_zone_49 : decode cX3_zone 49 = .ok (.invokestatic 84, 3) := by decide +kernel
theorem dX3_zone_52 : decode cX3_zone 52 = .ok (.iastore, 1) := by decide +kernel
theorem dX3_zone_53 : decode cX3_zone 53 = .ok (.aload_n 0, 1) := by decide +kernel
theorem dX3_zone_54 : decode cX3_zone 54 = .ok (.dup, 1) := by decide +kernel
theorem dX3_zone_55 : decode cX3_zone 55 = .ok (.getfield 70, 3) := by decide +kernel
theorem dX3_zone_58 : decode cX3_zone 58 = .ok (.iconst 1, 1) := by decide +kernel
theorem dX3_zone_59 : decode cX3_zone 59 = .ok (.iadd, 1) := by decide +kernel
theorem dX3_zone_60 : decode cX3_zone 60 = .ok (.putfield 70, 3) := by decide +kernel
theorem dX3_zone_63 : decode cX3_zone 63 = .ok (.aload_n 0, 1) := by decide +kernel
theorem dX3_zone_64 : decode cX3_zone 64 = .ok (.getfield 26, 3) := by decide +kernel
theorem dX3_zone_67 : decode cX3_zone 67 = .ok (.iload_n 1, 1) := by decide +kernel
theorem dX3_zone_68 : decode cX3_zone 68 = .ok (.iaload, 1) := by decide +kernel
theorem dX3_zone_69 : decode cX3_zone 69 = .ok (.invokestatic 88, 3) := by decide +kernel
theorem dX3_zone_72 : decode cX3_zone 72 = .ok (.ireturn, 1) := by decide +kernel
set_option maxRecDepth 20000 in
theorem ggX3_closed_X3_isPiece : GoodIn wsX3_closed wsX3_isPiece := goodIn_r _ [9, 4, 10, 11, 8, 12, 13, 14, 15, 16, 17, 18, 19, 20, 21, 22, 23, 24, 25, 26, 27, 28, 29, 30, 31, 32, 33, 34, 35, 36] (by decide +kernel) (by decide +kernel)
set_option maxRecDepth 20000 in
theorem gX3_closed_X3_isPiece : GoodIn wsX3_closed (wsV RX3 76 RX3 yX3_isPiece wsX3_isPiece) := goodIn_app (goodIn_of _ (by decide +kernel)) ggX3_closed_X3_isPiece
theorem dX3_closed_0 : decode cX3_closed 0 = .ok (.aload_n 0, 1) := by decide +kernel
theorem dX3_closed_1 : decode cX3_closed 1 = .ok (.aload_n 0, 1) := by decide +kernel
theorem dX3_closed_2 : decode cX3_closed 2 = .ok (.iload_n 1, 1) := by decide +kernel
theorem dX3_closed_3 : decode cX3_closed 3 = .ok (.invokevirtual 76, 3) := by decide +kernel
theorem dX3_closed_6 : decode cX3_closed 6 = .ok (.ifCond .eq 7, 3) := by decide +kernel
theorem dX3_closed_9 : decode cX3_closed 9 = .ok (.iconst 0, 1) := by decide +kernel
theorem dX3_closed_10 : decode cX3_closed 10 = .ok (.goto 4, 3) := by decide +kernel
theorem dX3_closed_13 : decode cX3_closed 13 = .ok (.iconst 1, 1) := by decide +kernel
theorem dX3_closed_14 : decode cX3_closed 14 = .ok (.putfield 59, 3) := by decide +kernel
theorem dX3_closed_17 : decode cX3_closed 17 = .ok (.aload_n 0, 1) := by decide +kernel
theorem dX3_closed_18 : decode cX3_closed 18 = .ok (.getfield 59, 3) := by decide +kernel
theorem dX3_closed_21 : decode cX3_closed 21 = .ok (.ifCond .le 5, 3) := by decide +kernel
theorem dX3_closed_24 : decode cX3_closed 24 = .ok (.iconst 0, 1) := by decide +kernel
theorem dX3_closed_25 : decode cX3_closed 25 = .ok (.ireturn, 1) := by decide +kernel
theorem dX3_closed_26 : decode cX3_closed 26 = .ok (.aload_n 0, 1) := by decide +kernel
theorem dX3_closed_27 : decode cX3_closed 27 = .ok (.getfield 23, 3) := by decide +kernel
theorem dX3_closed_30 : decode cX3_closed 30 = .ok (.iload_n 1, 1) := by decide +kernel
theorem dX3_closed_31 : decode cX3_closed 31 = .ok (.iload_n 2, 1) := by decide +kernel
theorem dX3_closed_32 : decode cX3_closed 32 = .ok (.bastore, 1) := by decide +kernel
theorem dX3_closed_33 : decode cX3_closed 33 = .ok (.aload_n 0, 1) := by decide +kernel
theorem dX3_closed_34 : decode cX3_closed 34 = .ok (.dup, 1) := by decide +kernel
theorem dX3_closed_35 : decode cX3_closed 35 = .ok (.getfield 70, 3) := by decide +kernel
theorem dX3_closed_38 : decode cX3_closed 38 = .ok (.iconst 1, 1) := by decide +kernel
theorem dX3_closed_39 : decode cX3_closed 39 = .ok (.iadd, 1) := by decide +kernel
theorem dX3_closed_40 : decode cX3_closed 40 = .ok (.putfield 70, 3) := by decide +kernel
theorem dX3_closed_43 : decode cX3_closed 43 = .ok (.iconst 0, 1) := by decide +kernel
theorem dX3_closed_44 : decode cX3_closed 44 = .ok (.istore_n 3, 1) := by decide +kernel
theorem dX3_closed_45 : decode cX3_closed 45 = .ok (.iconst 0, 1) := by decide +kernel
theorem dX3_closed_46 : decode cX3_closed 46 = .ok (.istore 4, 2) := by decide +kernel
theorem dX3_closed_48 : decode cX3_closed 48 = .ok (.iload 4, 2) := by decide +kernel
theorem dX3_closed_50 : decode cX3_closed 50 = .ok (.aload_n 0, 1) := by decide +kernel
theorem dX3_closed_51 : decode cX3_closed 51 = .ok (.getfield 63, 3) := by decide +kernel
theorem dX3_closed_54 : decode cX3_closed 54 = .ok (.if_icmp .ge 27, 3) := by decide +kernel
theorem dX3_closed_57 : decode cX3_closed 57 = .ok (.iload_n 3, 1) := by decide +kernel
theorem dX3_closed_58 : decode cX3_closed 58 = .ok (.aload_n 0, 1) := by decide +kernel
theorem dX3_closed_59 : decode cX3_closed 59 = .ok (.getfield 23, 3) := by decide +kernel
theorem dX3_closed_62 : decode cX3_closed 62 = .ok (.iload 4, 2) := by decide +kernel
theorem dX3_closed_64 : decode cX3_closed 64 = .ok (.baload, 1) := by decide +kernel
theorem dX3_closed_65 : decode cX3_closed 65 = .ok (.ifCond .eq 7, 3) := by decide +kernel
theorem dX3_closed_68 : decode cX3_closed 68 = .ok (.iconst 1, 1) := by decide +kernel
theorem dX3_closed_69 : decode cX3_closed 69 = .ok (.goto 4, 3) := by decide +kernel
theorem dX3_closed_72 : decode cX3_closed 72 = .ok (.iconst 0, 1) := by decide +kernel
theorem dX3_closed_73 : decode cX3_closed 73 = .ok (.iadd, 1) := by decide +kernel
theorem dX3_closed_74 : decode cX3_closed 74 = .ok (.istore_n 3, 1) := by decide +kernel
theorem dX3_closed_75 : decode cX3_closed 75 = .ok (.iinc 4 1, 3) := by decide +kernel
theorem dX3_closed_78 : decode cX3_closed 78 = .ok (.goto (-30), 3) := by decide +kernel
theorem dX3_closed_81 : decode cX3_closed 81 = .ok (.iload_n 3, 1) := by decide +kernel
theorem dX3_closed_82 : decode cX3_closed 82 = .ok (.ireturn, 1) := by decide +kernel
set_option maxRecDepth 20000 in
theorem ggX3_robot_X3_in : GoodIn wsX3_robot wsX3_in := goodIn_r _ [10] (by decide +kernel) (by decide +kernel)
set_option maxRecDepth 20000 in
theorem gX3_robot_X3_in : GoodIn wsX3_robot (va_wsS RX3 66 yX3_in wsX3_in) := goodIn_app (goodIn_of _ (by decide +kernel)) ggX3_robot_X3_in
theorem dX3_robot_0 : decode cX3_robot 0 = .ok (.aload_n 0, 1) := by decide +kernel
theorem dX3_robot_1 : decode cX3_robot 1 = .ok (.iload_n 1, 1) := by decide +kernel
theorem dX3_robot_2 : decode cX3_robot 2 = .ok (.iconst 1, 1) := by decide +kernel
theorem dX3_robot_3 : decode cX3_robot 3 = .ok (.sipush 500, 3) := by decide +kernel
theorem dX3_robot_6 : decode cX3_robot 6 = .ok (.invokestatic 66, 3) := by decide +kernel
theorem dX3_robot_9 : decode cX3_robot 9 = .ok (.ifCond .ne 7, 3) := by decide +kernel
theorem dX3_robot_12 : decode cX3_robot 12 = .ok (.iconst 1, 1) := by decide +kernel
theorem dX3_robot_13 : decode cX3_robot 13 = .ok (.goto 17, 3) := by decide +kernel
theorem dX3_robot_16 : decode cX3_robot 16 = .ok (.aload_n 0, 1) := by decide +kernel
theorem dX3_robot_17 : decode cX3_robot 17 = .ok (.getfield 92, 3) := by decide +kernel
theorem dX3_robot_20 : decode cX3_robot 20 = .ok (.bipush 6, 2) := by decide +kernel
theorem dX3_robot_22 : decode cX3_robot 22 = .ok (.if_icmp .ne 7, 3) := by decide +kernel
theorem dX3_robot_25 : decode cX3_robot 25 = .ok (.iconst 2, 1) := by decide +kernel
theorem dX3_robot_26 : decode cX3_robot 26 = .ok (.goto 4, 3) := by decide +kernel
theorem dX3_robot_29 : decode cX3_robot 29 = .ok (.iconst 0, 1) := by decide +kernel
theorem dX3_robot_30 : decode cX3_robot 30 = .ok (.putfield 59, 3) := by decide +kernel
theorem dX3_robot_33 : decode cX3_robot 33 = .ok (.aload_n 0, 1) := by decide +kernel
theorem dX3_robot_34 : decode cX3_robot 34 = .ok (.getfield 59, 3) := by decide +kernel
theorem dX3_robot_37 : decode cX3_robot 37 = .ok (.ifCond .le 5, 3) := by decide +kernel
theorem dX3_robot_40 : decode cX3_robot 40 = .ok (.iconst 0, 1) := by decide +kernel
theorem dX3_robot_41 : decode cX3_robot 41 = .ok (.ireturn, 1) := by decide +kernel
theorem dX3_robot_42 : decode cX3_robot 42 = .ok (.iconst 0, 1) := by decide +kernel
theorem dX3_robot_43 : decode cX3_robot 43 = .ok (.istore_n 2, 1) := by decide +kernel
theorem dX3_robot_44 : decode cX3_robot 44 = .ok (.iconst 0, 1) := by decide +kernel
theorem dX3_robot_45 : decode cX3_robot 45 = .ok (.istore_n 3, 1) := by decide +kernel
theorem dX3_robot_46 : decode cX3_robot 46 = .ok (.iload_n 3, 1) := by decide +kernel
theorem dX3_robot_47 : decode cX3_robot 47 = .ok (.aload_n 0, 1) := by decide +kernel
theorem dX3_robot_48 : decode cX3_robot 48 = .ok (.getfield 63, 3) := by decide +kernel
theorem dX3_robot_51 : decode cX3_robot 51 = .ok (.if_icmp .ge 29, 3) := by decide +kernel
theorem dX3_robot_54 : decode cX3_robot 54 = .ok (.iload_n 2, 1) := by decide +kernel
theorem dX3_robot_55 : decode cX3_robot 55 = .ok (.ifCond .ne 13, 3) := by decide +kernel
theorem dX3_robot_58 : decode cX3_robot 58 = .ok (.aload_n 0, 1) := by decide +kernel
theorem dX3_robot_59 : decode cX3_robot 59 = .ok (.getfield 16, 3) := by decide +kernel
theorem dX3_robot_62 : decode cX3_robot 62 = .ok (.iload_n 3, 1) := by decide +kernel
theorem dX3_robot_63 : decode cX3_robot 63 = .ok (.iaload, 1) := by decide +kernel
theorem dX3_robot_64 : decode cX3_robot 64 = .ok (.iload_n 1, 1) := by decide +kernel
theorem dX3_robot_65 : decode cX3_robot 65 = .ok (.if_icmp .lt 7, 3) := by decide +kernel
theorem dX3_robot_68 : decode cX3_robot 68 = .ok (.iconst 1, 1) := by decide +kernel
theorem dX3_robot_69 : decode cX3_robot 69 = .ok (.goto 4, 3) := by decide +kernel
theorem dX3_robot_72 : decode cX3_robot 72 = .ok (.iconst 0, 1) := by decide +kernel
theorem dX3_robot_73 : decode cX3_robot 73 = .ok (.istore_n 2, 1) := by decide +kernel
theorem dX3_robot_74 : decode cX3_robot 74 = .ok (.iinc 3 1, 3) := by decide +kernel
theorem dX3_robot_77 : decode cX3_robot 77 = .ok (.goto (-31), 3) := by decide +kernel
theorem dX3_robot_80 : decode cX3_robot 80 = .ok (.iload_n 2, 1) := by decide +kernel
theorem dX3_robot_81 : decode cX3_robot 81 = .ok (.ifCond .ne 5, 3) := by decide +kernel
theorem dX3_robot_84 : decode cX3_robot 84 = .ok (.iconst (-1), 1) := by decide +kernel
theorem dX3_robot_85 : decode cX3_robot 85 = .ok (.ireturn, 1) := by decide +kernel
theorem dX3_robot_86 : decode cX3_robot 86 = .ok (.aload_n 0, 1) := by decide +kernel
theorem dX3_robot_87 : decode cX3_robot 87 = .ok (.getfield 41, 3) := by decide +kernel
theorem dX3_robot_90 : decode cX3_robot 90 = .ok (.aload_n 0, 1) := by decide +kernel
theorem dX3_robot_91 : decode cX3_robot 91 = .ok (.getfield 92, 3) := by decide +kernel
theorem dX3_robot_94 : decode cX3_robot 94 = .ok (.iload_n 1, 1) := by decide +kernel
theorem dX3_robot_95 : decode cX3_robot 95 = .ok (.iastore, 1) := by decide +kernel
theorem dX3_robot_96 : decode cX3_robot 96 = .ok (.aload_n 0, 1) := by decide +kernel
theorem dX3_robot_97 : decode cX3_robot 97 = .ok (.dup, 1) := by decide +kernel
theorem dX3_robot_98 : decode cX3_robot 98 = .ok (.getfield 92, 3) := by decide +kernel
theorem dX3_robot_101 : decode cX3_robot 101 = .ok (.iconst 1, 1) := by decide +kernel
theorem dX3_robot_102 : decode cX3_robot 102 = .ok (.iadd, 1) := by decide +kernel
theorem dX3_robot_103 : decode cX3_robot 103 = .ok (.putfield 92, 3) := by decide +kernel
theorem dX3_robot_106 : decode cX3_robot 106 = .ok (.aload_n 0, 1) := by decide +kernel
theorem dX3_robot_107 : decode cX3_robot 107 = .ok (.dup, 1) := by decide +kernel
theorem dX3_robot_108 : decode cX3_robot 108 = .ok (.getfield 70, 3) := by decide +kernel
theorem dX3_robot_111 : decode cX3_robot 111 = .ok (.iconst 1, 1) := by decide +kernel
theorem dX3_robot_112 : decode cX3_robot 112 = .ok (.iadd, 1) := by decide +kernel
theorem dX3_robot_113 : decode cX3_robot 113 = .ok (.putfield 70, 3) := by decide +kernel
theorem dX3_robot_116 : decode cX3_robot 116 = .ok (.aload_n 0, 1) := by decide +kernel
theorem dX3_robot_117 : decode cX3_robot 117 = .ok (.getfield 92, 3) := by decide +kernel
theorem dX3_robot_120 : decode cX3_robot 120 = .ok (.iconst 1, 1) := by decide +kernel
theorem dX3_robot_121 : decode cX3_robot 121 = .ok (.isub, 1) := by decide +kernel
theorem dX3_robot_122 : decode cX3_robot 122 = .ok (.ireturn, 1) := by decide +kernel
theorem dX3_mayEnter_0 : decode cX3_mayEnter 0 = .ok (.iload_n 2, 1) := by decide +kernel
theorem dX3_mayEnter_1 : decode cX3_mayEnter 1 = .ok (.iconst 2, 1) := by decide +kernel
theorem dX3_mayEnter_2 : decode cX3_mayEnter 2 = .ok (.idiv, 1) := by decide +kernel
theorem dX3_mayEnter_3 : decode cX3_mayEnter 3 = .ok (.istore 4, 2) := by decide +kernel
theorem dX3_mayEnter_5 : decode cX3_mayEnter 5 = .ok (.aload_n 0, 1) := by decide +kernel
theorem dX3_mayEnter_6 : decode cX3_mayEnter 6 = .ok (.getfield 23, 3) := by decide +kernel
theorem dX3_mayEnter_9 : decode cX3_mayEnter 9 = .ok (.iload 4, 2) := by decide +kernel
theorem dX3_mayEnter_11 : decode cX3_mayEnter 11 = .ok (.baload, 1) := by decide +kernel
theorem dX3_mayEnter_12 : decode cX3_mayEnter 12 = .ok (.ifCond .ne 53, 3) := by decide +kernel
theorem dX3_mayEnter_15 : decode cX3_mayEnter 15 = .ok (.aload_n 0, 1) := by decide +kernel
theorem dX3_mayEnter_16 : decode cX3_mayEnter 16 = .ok (.getfield 26, 3) := by decide +kernel
theorem dX3_mayEnter_19 : decode cX3_mayEnter 19 = .ok (.iload 4, 2) := by decide +kernel
theorem dX3_mayEnter_21 : decode cX3_mayEnter 21 = .ok (.iaload, 1) := by decide +kernel
theorem dX3_mayEnter_22 : decode cX3_mayEnter 22 = .ok (.iload_n 3, 1) := by decide +kernel
theorem dX3_mayEnter_23 : decode cX3_mayEnter 23 = .ok (.ishr, 1) := by decide +kernel
theorem dX3_mayEnter_24 : decode cX3_mayEnter 24 = .ok (.iconst 1, 1) := by decide +kernel
theorem dX3_mayEnter_25 : decode cX3_mayEnter 25 = .ok (.iand, 1) := by decide +kernel
theorem dX3_mayEnter_26 : decode cX3_mayEnter 26 = .ok (.ifCond .ne 39, 3) := by decide +kernel
theorem dX3_mayEnter_29 : decode cX3_mayEnter 29 = .ok (.aload_n 0, 1) := by decide +kernel
theorem dX3_mayEnter_30 : decode cX3_mayEnter 30 = .ok (.getfield 16, 3) := by decide +kernel
theorem dX3_mayEnter_33 : decode cX3_mayEnter 33 = .ok (.iload 4, 2) := by decide +kernel
theorem dX3_mayEnter_35 : decode cX3_mayEnter 35 = .ok (.iaload, 1) := by decide +kernel
theorem dX3_mayEnter_36 : decode cX3_mayEnter 36 = .ok (.aload_n 0, 1) := by decide +kernel
theorem dX3_mayEnter_37 : decode cX3_mayEnter 37 = .ok (.getfield 41, 3) := by decide +kernel
theorem dX3_mayEnter_40 : decode cX3_mayEnter 40 = .ok (.iload_n 1, 1) := by decide +kernel
theorem dX3_mayEnter_41 : decode cX3_mayEnter 41 = .ok (.iaload, 1) := by decide +kernel
theorem dX3_mayEnter_42 : decode cX3_mayEnter 42 = .ok (.if_icmp .lt 23, 3) := by decide +kernel
theorem dX3_mayEnter_45 : decode cX3_mayEnter 45 = .ok (.iload_n 2, 1) := by decide +kernel
theorem dX3_mayEnter_46 : decode cX3_mayEnter 46 = .ok (.iconst 2, 1) := by decide +kernel
theorem dX3_mayEnter_47 : decode cX3_mayEnter 47 = .ok (.irem, 1) := by decide +kernel
theorem dX3_mayEnter_48 : decode cX3_mayEnter 48 = .ok (.ifCond .eq 13, 3) := by decide +kernel
theorem dX3_mayEnter_51 : decode cX3_mayEnter 51 = .ok (.aload_n 0, 1) := by decide +kernel
theorem dX3_mayEnter_52 : decode cX3_mayEnter 52 = .ok (.getfield 19, 3) := by decide +kernel
theorem dX3_mayEnter_55 : decode cX3_mayEnter 55 = .ok (.iload 4, 2) := by decide +kernel
theorem dX3_mayEnter_57 : decode cX3_mayEnter 57 = .ok (.baload, 1) := by decide +kernel
theorem dX3_mayEnter_58 : decode cX3_mayEnter 58 = .ok (.ifCond .eq 7, 3) := by decide +kernel
theorem dX3_mayEnter_61 : decode cX3_mayEnter 61 = .ok (.iconst 1, 1) := by decide +kernel
theorem dX3_mayEnter_62 : decode cX3_mayEnter 62 = .ok (.goto 4, 3) := by decide +kernel
theorem dX3_mayEnter_65 : decode cX3_mayEnter 65 = .ok (.iconst 0, 1) := by decide +kernel
theorem dX3_mayEnter_66 : decode cX3_mayEnter 66 = .ok (.ireturn, 1) := by decide +kernel
theorem dX3_from_0 : decode cX3_from 0 = .ok (.iload_n 2, 1) := by decide +kernel
theorem dX3_from_1 : decode cX3_from 1 = .ok (.ifCond .ne 12, 3) := by decide +kernel
theorem dX3_from_4 : decode cX3_from 4 = .ok (.aload_n 0, 1) := by decide +kernel
theorem dX3_from_5 : decode cX3_from 5 = .ok (.getfield 29, 3) := by decide +kernel
theorem dX3_from_8 : decode cX3_from 8 = .ok (.iload_n 1, 1) := by decide +kernel
theorem dX3_from_9 : decode cX3_from 9 = .ok (.iaload, 1) := by decide +kernel
theorem dX3_from_10 : decode cX3_from 10 = .ok (.goto 9, 3) := by decide +kernel
theorem dX3_from_13 : decode cX3_from 13 = .ok (.aload_n 0, 1) := by decide +kernel
theorem dX3_from_14 : decode cX3_from 14 = .ok (.getfield 32, 3) := by decide +kernel
theorem dX3_from_17 : decode cX3_from 17 = .ok (.iload_n 1, 1) := by decide +kernel
theorem dX3_from_18 : decode cX3_from 18 = .ok (.iaload, 1) := by decide +kernel
theorem dX3_from_19 : decode cX3_from 19 = .ok (.ireturn, 1) := by decide +kernel
theorem dX3_to_0 : decode cX3_to 0 = .ok (.iload_n 2, 1) := by decide +kernel
theorem dX3_to_1 : decode cX3_to 1 = .ok (.ifCond .ne 12, 3) := by decide +kernel
theorem dX3_to_4 : decode cX3_to 4 = .ok (.aload_n 0, 1) := by decide +kernel
theorem dX3_to_5 : decode cX3_to 5 = .ok (.getfield 32, 3) := by decide +kernel
theorem dX3_to_8 : decode cX3_to 8 = .ok (.iload_n 1, 1) := by decide +kernel
theorem dX3_to_9 : decode cX3_to 9 = .ok (.iaload, 1) := by decide +kernel
theorem dX3_to_10 : decode cX3_to 10 = .ok (.goto 9, 3) := by decide +kernel
theorem dX3_to_13 : decode cX3_to 13 = .ok (.aload_n 0, 1) := by decide +kernel
theorem dX3_to_14 : decode cX3_to 14 = .ok (.getfield 29, 3) := by decide +kernel
theorem dX3_to_17 : decode cX3_to 17 = .ok (.iload_n 1, 1) := by decide +kernel
theorem dX3_to_18 : decode cX3_to 18 = .ok (.iaload, 1) := by decide +kernel
theorem dX3_to_19 : decode cX3_to 19 = .ok (.ireturn, 1) := by decide +kernel
set_option maxRecDepth 20000 in
theorem ggX3_mayGo_X3_to : GoodIn wsX3_mayGo wsX3_to := goodIn_r _ [6, 7, 8, 18, 19, 20, 21, 22, 23, 24, 25, 26, 27, 28, 29, 30, 31, 32, 33, 34, 35, 36, 37, 38, 39, 40, 41] (by decide +kernel) (by decide +kernel)
set_option maxRecDepth 20000 in
theorem gX3_mayGo_X3_to : GoodIn wsX3_mayGo (wsV RX3 95 RX3 yX3_to wsX3_to) := goodIn_app (goodIn_of _ (by decide +kernel)) ggX3_mayGo_X3_to
set_option maxRecDepth 20000 in
theorem ggX3_mayGo_X3_mayEnter : GoodIn wsX3_mayGo wsX3_mayEnter := goodIn_r _ [12, 13, 14, 15, 16, 17, 18, 19, 20, 21, 22, 23, 24, 25, 26, 27, 28, 29, 30, 31, 32, 33, 34, 35, 36, 37, 38, 39, 40, 41] (by decide +kernel) (by decide +kernel)
set_option maxRecDepth 20000 in
theorem gX3_mayGo_X3_mayEnter : GoodIn wsX3_mayGo (wsV RX3 99 RX3 yX3_mayEnter wsX3_mayEnter) := goodIn_app (goodIn_of _ (by decide +kernel)) ggX3_mayGo_X3_mayEnter
theorem dX3_mayGo_0 : decode cX3_mayGo 0 = .ok (.aload_n 0, 1) := by decide +kernel
theorem dX3_mayGo_1 : decode cX3_mayGo 1 = .ok (.getfield 38, 3) := by decide +kernel
theorem dX3_mayGo_4 : decode cX3_mayGo 4 = .ok (.iload_n 2, 1) := by decide +kernel
theorem dX3_mayGo_5 : decode cX3_mayGo 5 = .ok (.iaload, 1) := by decide +kernel
theorem dX3_mayGo_6 : decode cX3_mayGo 6 = .ok (.iload_n 3, 1) := by decide +kernel
theorem dX3_mayGo_7 : decode cX3_mayGo 7 = .ok (.ishr, 1) := by decide +kernel
theorem dX3_mayGo_8 : decode cX3_mayGo 8 = .ok (.iconst 1, 1) := by decide +kernel
theorem dX3_mayGo_9 : decode cX3_mayGo 9 = .ok (.iand, 1) := by decide +kernel
theorem dX3_mayGo_10 : decode cX3_mayGo 10 = .ok (.ifCond .ne 23, 3) := by decide +kernel
theorem dX3_mayGo_13 : decode cX3_mayGo 13 = .ok (.aload_n 0, 1) := by decide +kernel
theorem dX3_mayGo_14 : decode cX3_mayGo 14 = .ok (.iload_n 1, 1) := by decide +kernel
theorem dX3_mayGo_15 : decode cX3_mayGo 15 = .ok (.aload_n 0, 1) := by decide +kernel
theorem dX3_mayGo_16 : decode cX3_mayGo 16 = .ok (.iload_n 2, 1) := by decide +kernel
theorem dX3_mayGo_17 : decode cX3_mayGo 17 = .ok (.iload_n 3, 1) := by decide +kernel
theorem dX3_mayGo_18 : decode cX3_mayGo 18 = .ok (.invokevirtual 95, 3) := by decide +kernel
theorem dX3_mayGo_21 : decode cX3_mayGo 21 = .ok (.iload 4, 2) := by decide +kernel
theorem dX3_mayGo_23 : decode cX3_mayGo 23 = .ok (.invokevirtual 99, 3) := by decide +kernel
theorem dX3_mayGo_26 : decode cX3_mayGo 26 = .ok (.ifCond .eq 7, 3) := by decide +kernel
theorem dX3_mayGo_29 : decode cX3_mayGo 29 = .ok (.iconst 1, 1) := by decide +kernel
theorem dX3_mayGo_30 : decode cX3_mayGo 30 = .ok (.goto 4, 3) := by decide +kernel
theorem dX3_mayGo_33 : decode cX3_mayGo 33 = .ok (.iconst 0, 1) := by decide +kernel
theorem dX3_mayGo_34 : decode cX3_mayGo 34 = .ok (.ireturn, 1) := by decide +kernel
set_option maxRecDepth 20000 in
theorem ggX3_reachAll_X3_lower : GoodIn wsX3_reachAll wsX3_lower := goodIn_r _ [9, 2, 10, 11, 12, 8, 13, 14, 15, 16, 17, 18, 19, 20, 21, 22, 23, 24, 25, 26, 27, 28, 29, 30, 31, 32, 33, 34, 35, 36, 37, 38, 3, 39, 40, 41, 42, 43, 44, 45, 46, 47, 48, 49, 50, 51, 52, 53, 54, 55, 56, 57, 58, 59, 60, 61, 62] (by decide +kernel) (by decide +kernel)
set_option maxRecDepth 20000 in
theorem gX3_reachAll_X3_lower : GoodIn wsX3_reachAll (wsV RX3 102 RX3 yX3_lower wsX3_lower) := goodIn_app (goodIn_of _ (by decide +kernel)) ggX3_reachAll_X3_lower
theorem dX3_reachAll_0 : decode cX3_reachAll 0 = .ok (.iconst 0, 1) := by decide +kernel
theorem dX3_reachAll_1 : decode cX3_reachAll 1 = .ok (.istore 4, 2) := by decide +kernel
theorem dX3_reachAll_3 : decode cX3_reachAll 3 = .ok (.iload 4, 2) := by decide +kernel
theorem dX3_reachAll_5 : decode cX3_reachAll 5 = .ok (.iconst 2, 1) := by decide +kernel
theorem dX3_reachAll_6 : decode cX3_reachAll 6 = .ok (.aload_n 0, 1) := by decide +kernel
theorem dX3_reachAll_7 : decode cX3_reachAll 7 = .ok (.getfield 63, 3) := by decide +kernel
theorem dX3_reachAll_10 : decode cX3_reachAll 10 = .ok (.imul, 1) := by decide +kernel
theorem dX3_reachAll_11 : decode cX3_reachAll 11 = .ok (.if_icmp .ge 17, 3) := by decide +kernel
theorem dX3_reachAll_14 : decode cX3_reachAll 14 = .ok (.aload_n 0, 1) := by decide +kernel
theorem dX3_reachAll_15 : decode cX3_reachAll 15 = .ok (.getfield 50, 3) := by decide +kernel
theorem dX3_reachAll_18 : decode cX3_reachAll 18 = .ok (.iload 4, 2) := by decide +kernel
theorem dX3_reachAll_20 : decode cX3_reachAll 20 = .ok (.iconst (-1), 1) := by decide +kernel
theorem dX3_reachAll_21 : decode cX3_reachAll 21 = .ok (.iastore, 1) := by decide +kernel
theorem dX3_reachAll_22 : decode cX3_reachAll 22 = .ok (.iinc 4 1, 3) := by decide +kernel
theorem dX3_reachAll_25 : decode cX3_reachAll 25 = .ok (.goto (-22), 3) := by decide +kernel
theorem dX3_reachAll_28 : decode cX3_reachAll 28 = .ok (.aload_n 0, 1) := by decide +kernel
theorem dX3_reachAll_29 : decode cX3_reachAll 29 = .ok (.getfield 50, 3) := by decide +kernel
theorem dX3_reachAll_32 : decode cX3_reachAll 32 = .ok (.iconst 2, 1) := by decide +kernel
theorem dX3_reachAll_33 : decode cX3_reachAll 33 = .ok (.iload_n 2, 1) := by decide +kernel
theorem dX3_reachAll_34 : decode cX3_reachAll 34 = .ok (.imul, 1) := by decide +kernel
theorem dX3_reachAll_35 : decode cX3_reachAll 35 = .ok (.iconst 1, 1) := by decide +kernel
theorem dX3_reachAll_36 : decode cX3_reachAll 36 = .ok (.iadd, 1) := by decide +kernel
theorem dX3_reachAll_37 : decode cX3_reachAll 37 = .ok (.iconst 0, 1) := by decide +kernel
theorem dX3_reachAll_38 : decode cX3_reachAll 38 = .ok (.iastore, 1) := by decide +kernel
theorem dX3_reachAll_39 : decode cX3_reachAll 39 = .ok (.aload_n 0, 1) := by decide +kernel
theorem dX3_reachAll_40 : decode cX3_reachAll 40 = .ok (.getfield 19, 3) := by decide +kernel
theorem dX3_reachAll_43 : decode cX3_reachAll 43 = .ok (.iload_n 2, 1) := by decide +kernel
theorem dX3_reachAll_44 : decode cX3_reachAll 44 = .ok (.baload, 1) := by decide +kernel
theorem dX3_reachAll_45 : decode cX3_reachAll 45 = .ok (.ifCond .eq 12, 3) := by decide +kernel
theorem dX3_reachAll_48 : decode cX3_reachAll 48 = .ok (.aload_n 0, 1) := by decide +kernel
theorem dX3_reachAll_49 : decode cX3_reachAll 49 = .ok (.getfield 50, 3) := by decide +kernel
theorem dX3_reachAll_52 : decode cX3_reachAll 52 = .ok (.iconst 2, 1) := by decide +kernel
theorem dX3_reachAll_53 : decode cX3_reachAll 53 = .ok (.iload_n 2, 1) := by decide +kernel
theorem dX3_reachAll_54 : decode cX3_reachAll 54 = .ok (.imul, 1) := by decide +kernel
theorem dX3_reachAll_55 : decode cX3_reachAll 55 = .ok (.iconst 0, 1) := by decide +kernel
theorem dX3_reachAll_56 : decode cX3_reachAll 56 = .ok (.iastore, 1) := by decide +kernel
theorem dX3_reachAll_57 : decode cX3_reachAll 57 = .ok (.iconst 1, 1) := by decide +kernel
theorem dX3_reachAll_58 : decode cX3_reachAll 58 = .ok (.istore 4, 2) := by decide +kernel
theorem dX3_reachAll_60 : decode cX3_reachAll 60 = .ok (.iload 4, 2) := by decide +kernel
theorem dX3_reachAll_62 : decode cX3_reachAll 62 = .ok (.ifCond .eq 67, 3) := by decide +kernel
theorem dX3_reachAll_65 : decode cX3_reachAll 65 = .ok (.iconst 0, 1) := by decide +kernel
theorem dX3_reachAll_66 : decode cX3_reachAll 66 = .ok (.istore 4, 2) := by decide +kernel
theorem dX3_reachAll_68 : decode cX3_reachAll 68 = .ok (.iconst 0, 1) := by decide +kernel
theorem dX3_reachAll_69 : decode cX3_reachAll 69 = .ok (.istore 5, 2) := by decide +kernel
theorem dX3_reachAll_71 : decode cX3_reachAll 71 = .ok (.iload 5, 2) := by decide +kernel
theorem dX3_reachAll_73 : decode cX3_reachAll 73 = .ok (.aload_n 0, 1) := by decide +kernel
theorem dX3_reachAll_74 : decode cX3_reachAll 74 = .ok (.getfield 73, 3) := by decide +kernel
theorem dX3_reachAll_77 : decode cX3_reachAll 77 = .ok (.if_icmp .ge 49, 3) := by decide +kernel
theorem dX3_reachAll_80 : decode cX3_reachAll 80 = .ok (.iconst 0, 1) := by decide +kernel
theorem dX3_reachAll_81 : decode cX3_reachAll 81 = .ok (.istore 6, 2) := by decide +kernel
theorem dX3_reachAll_83 : decode cX3_reachAll 83 = .ok (.iload 6, 2) := by decide +kernel
theorem dX3_reachAll_85 : decode cX3_reachAll 85 = .ok (.iconst 2, 1) := by decide +kernel
theorem dX3_reachAll_86 : decode cX3_reachAll 86 = .ok (.if_icmp .ge 34, 3) := by decide +kernel
theorem dX3_reachAll_89 : decode cX3_reachAll 89 = .ok (.aload_n 0, 1) := by decide +kernel
theorem dX3_reachAll_90 : decode cX3_reachAll 90 = .ok (.iload_n 1, 1) := by decide +kernel
theorem dX3_reachAll_91 : decode cX3_reachAll 91 = .ok (.iload 5, 2) := by decide +kernel
theorem dX3_reachAll_93 : decode cX3_reachAll 93 = .ok (.iload 6, 2) := by decide +kernel
theorem dX3_reachAll_95 : decode cX3_reachAll 95 = .ok (.iload_n 3, 1) := by decide +kernel
theorem dX3_reachAll_96 : decode cX3_reachAll 96 = .ok (.invokevirtual 102, 3) := by decide +kernel
theorem dX3_reachAll_99 : decode cX3_reachAll 99 = .ok (.ifCond .ne 8, 3) := by decide +kernel
theorem dX3_reachAll_102 : decode cX3_reachAll 102 = .ok (.iload 4, 2) := by decide +kernel
theorem dX3_reachAll_104 : decode cX3_reachAll 104 = .ok (.ifCond .eq 7, 3) := by decide +kernel
theorem dX3_reachAll_107 : decode cX3_reachAll 107 = .ok (.iconst 1, 1) := by decide +kernel
theorem dX3_reachAll_108 : decode cX3_reachAll 108 = .ok (.goto 4, 3) := by decide +kernel
theorem dX3_reachAll_111 : decode cX3_reachAll 111 = .ok (.iconst 0, 1) := by decide +kernel
theorem dX3_reachAll_112 : decode cX3_reachAll 112 = .ok (.istore 4, 2) := by decide +kernel
theorem dX3_reachAll_114 : decode cX3_reachAll 114 = .ok (.iinc 6 1, 3) := by decide +kernel
theorem dX3_reachAll_117 : decode cX3_reachAll 117 = .ok (.goto (-34), 3) := by decide +kernel
theorem dX3_reachAll_120 : decode cX3_reachAll 120 = .ok (.iinc 5 1, 3) := by decide +kernel
theorem dX3_reachAll_123 : decode cX3_reachAll 123 = .ok (.goto (-52), 3) := by decide +kernel
theorem dX3_reachAll_126 : decode cX3_reachAll 126 = .ok (.goto (-66), 3) := by decide +kernel
theorem dX3_reachAll_129 : decode cX3_reachAll 129 = .ok (.return_, 1) := by decide +kernel
set_option maxRecDepth 20000 in
theorem ggX3_through_X3_from : GoodIn wsX3_through wsX3_from := goodIn_r _ [8, 9, 10, 29, 30, 31, 32, 33, 34, 35, 36, 37, 38, 39, 40, 41, 42, 43, 44, 45, 46, 47, 48, 49, 50, 51, 52] (by decide +kernel) (by decide +kernel)
set_option maxRecDepth 20000 in
theorem gX3_through_X3_from : GoodIn wsX3_through (wsV RX3 106 RX3 yX3_from wsX3_from) := goodIn_app (goodIn_of _ (by decide +kernel)) ggX3_through_X3_from
set_option maxRecDepth 20000 in
theorem ggX3_through_X3_mayGo : GoodIn wsX3_through wsX3_mayGo := goodIn_r _ [14, 15, 16, 17, 18, 7, 19, 10, 9, 20, 21, 22, 23, 24, 25, 26, 27, 28, 29, 30, 31, 32, 33, 34, 35, 36, 37, 38, 39, 40, 41, 42, 43, 44, 45, 46, 47, 48, 49, 50, 51, 52] (by decide +kernel) (by decide +kernel)
set_option maxRecDepth 20000 in
theorem gX3_through_X3_mayGo : GoodIn wsX3_through (wsV RX3 109 RX3 yX3_mayGo wsX3_mayGo) := goodIn_app (goodIn_of _ (by decide +kernel)) ggX3_through_X3_mayGo
set_option maxRecDepth 20000 in
theorem ggX3_through_X3_to : GoodIn wsX3_through wsX3_to := goodIn_r _ [19, 10, 9, 29, 30, 31, 32, 33, 34, 35, 36, 37, 38, 39, 40, 41, 42, 43, 44, 45, 46, 47, 48, 49, 50, 51, 52] (by decide +kernel) (by decide +kernel)
set_option maxRecDepth 20000 in
theorem gX3_through_X3_to : GoodIn wsX3_through (wsV RX3 95 RX3 yX3_to wsX3_to) := goodIn_app (goodIn_of _ (by decide +kernel)) ggX3_through_X3_to
theorem dX3_through_0 : decode cX3_through 0 = .ok (.aload_n 0, 1) := by decide +kernel
theorem dX3_through_1 : decode cX3_through 1 = .ok (.getfield 50, 3) := by decide +kernel
theorem dX3_through_4 : decode cX3_through 4 = .ok (.aload_n 0, 1) := by decide +kernel
theorem dX3_through_5 : decode cX3_through 5 = .ok (.iload_n 2, 1) := by decide +kernel
theorem dX3_through_6 : decode cX3_through 6 = .ok (.iload_n 3, 1) := by decide +kernel
theorem dX3_through_7 : decode cX3_through 7 = .ok (.invokevirtual 106, 3) := by decide +kernel
theorem dX3_through_10 : decode cX3_through 10 = .ok (.iaload, 1) := by decide +kernel
theorem dX3_through_11 : decode cX3_through 11 = .ok (.iconst (-1), 1) := by decide +kernel
theorem dX3_through_12 : decode cX3_through 12 = .ok (.if_icmp .eq 15, 3) := by decide +kernel
theorem dX3_through_15 : decode cX3_through 15 = .ok (.aload_n 0, 1) := by decide +kernel
theorem dX3_through_16 : decode cX3_through 16 = .ok (.iload_n 1, 1) := by decide +kernel
theorem dX3_through_17 : decode cX3_through 17 = .ok (.iload_n 2, 1) := by decide +kernel
theorem dX3_through_18 : decode cX3_through 18 = .ok (.iload_n 3, 1) := by decide +kernel
theorem dX3_through_19 : decode cX3_through 19 = .ok (.iload 4, 2) := by decide +kernel
theorem dX3_through_21 : decode cX3_through 21 = .ok (.invokevirtual 109, 3) := by decide +kernel
theorem dX3_through_24 : decode cX3_through 24 = .ok (.ifCond .ne 5, 3) := by decide +kernel
theorem dX3_through_27 : decode cX3_through 27 = .ok (.iconst (-1), 1) := by decide +kernel
theorem dX3_through_28 : decode cX3_through 28 = .ok (.ireturn, 1) := by decide +kernel
theorem dX3_through_29 : decode cX3_through 29 = .ok (.aload_n 0, 1) := by decide +kernel
theorem dX3_through_30 : decode cX3_through 30 = .ok (.getfield 50, 3) := by decide +kernel
theorem dX3_through_33 : decode cX3_through 33 = .ok (.aload_n 0, 1) := by decide +kernel
theorem dX3_through_34 : decode cX3_through 34 = .ok (.iload_n 2, 1) := by decide +kernel
theorem dX3_through_35 : decode cX3_through 35 = .ok (.iload_n 3, 1) := by decide +kernel
theorem dX3_through_36 : decode cX3_through 36 = .ok (.invokevirtual 106, 3) := by decide +kernel
theorem dX3_through_39 : decode cX3_through 39 = .ok (.iaload, 1) := by decide +kernel
theorem dX3_through_40 : decode cX3_through 40 = .ok (.aload_n 0, 1) := by decide +kernel
theorem dX3_through_41 : decode cX3_through 41 = .ok (.getfield 35, 3) := by decide +kernel
theorem dX3_through_44 : decode cX3_through 44 = .ok (.iload_n 2, 1) := by decide +kernel
theorem dX3_through_45 : decode cX3_through 45 = .ok (.iaload, 1) := by decide +kernel
theorem dX3_through_46 : decode cX3_through 46 = .ok (.iadd, 1) := by decide +kernel
theorem dX3_through_47 : decode cX3_through 47 = .ok (.aload_n 0, 1) := by decide +kernel
theorem dX3_through_48 : decode cX3_through 48 = .ok (.getfield 13, 3) := by decide +kernel
theorem dX3_through_51 : decode cX3_through 51 = .ok (.aload_n 0, 1) := by decide +kernel
theorem dX3_through_52 : decode cX3_through 52 = .ok (.iload_n 2, 1) := by decide +kernel
theorem dX3_through_53 : decode cX3_through 53 = .ok (.iload_n 3, 1) := by decide +kernel
theorem dX3_through_54 : decode cX3_through 54 = .ok (.invokevirtual 95, 3) := by decide +kernel
theorem dX3_through_57 : decode cX3_through 57 = .ok (.iconst 2, 1) := by decide +kernel
theorem dX3_through_58 : decode cX3_through 58 = .ok (.idiv, 1) := by decide +kernel
theorem dX3_through_59 : decode cX3_through 59 = .ok (.iaload, 1) := by decide +kernel
theorem dX3_through_60 : decode cX3_through 60 = .ok (.iadd, 1) := by decide +kernel
theorem dX3_through_61 : decode cX3_through 61 = .ok (.ireturn, 1) := by decide +kernel
set_option maxRecDepth 20000 in
theorem ggX3_lower_X3_through : GoodIn wsX3_lower wsX3_through := goodIn_r _ [6, 1, 7, 8, 9, 10, 11, 5, 12, 13, 14, 15, 16, 17, 18, 19, 20, 21, 22, 23, 24, 25, 26, 27, 28, 29, 30, 31, 32, 33, 34, 35, 36, 37, 38, 39, 40, 41, 42, 43, 44, 45, 46, 47, 48, 49, 50, 51, 52, 53, 54, 55, 56] (by decide +kernel) (by decide +kernel)
set_option maxRecDepth 20000 in
theorem gX3_lower_X3_through : GoodIn wsX3_lower (wsV RX3 112 RX3 yX3_through wsX3_through) := goodIn_app (goodIn_of _ (by decide +kernel)) ggX3_lower_X3_through
set_option maxRecDepth 20000 in
theorem ggX3_lower_X3_to : GoodIn wsX3_lower wsX3_to := goodIn_r _ [23, 14, 13, 33, 34, 35, 36, 37, 38, 39, 40, 41, 42, 43, 44, 45, 46, 47, 48, 49, 50, 51, 52, 53, 54, 55, 56] (by decide +kernel) (by decide +kernel)
set_option maxRecDepth 20000 in
theorem gX3_lower_X3_to : GoodIn wsX3_lower (wsV RX3 95 RX3 yX3_to wsX3_to) := goodIn_app (goodIn_of _ (by decide +kernel)) ggX3_lower_X3_to
theorem dX3_lower_0 : decode cX3_lower 0 = .ok (.aload_n 0, 1) := by decide +kernel
theorem dX3_lower_1 : decode cX3_lower 1 = .ok (.iload_n 1, 1) := by decide +kernel
theorem dX3_lower_2 : decode cX3_lower 2 = .ok (.iload_n 2, 1) := by decide +kernel
theorem dX3_lower_3 : decode cX3_lower 3 = .ok (.iload_n 3, 1) := by decide +kernel
theorem dX3_lower_4 : decode cX3_lower 4 = .ok (.iload 4, 2) := by decide +kernel
theorem dX3_lower_6 : decode cX3_lower 6 = .ok (.invokevirtual 112, 3) := by decide +kernel
theorem dX3_lower_9 : decode cX3_lower 9 = .ok (.istore 5, 2) := by decide +kernel
theorem dX3_lower_11 : decode cX3_lower 11 = .ok (.aload_n 0, 1) := by decide +kernel
theorem dX3_lower_12 : decode cX3_lower 12 = .ok (.iload_n 2, 1) := by decide +kernel
theorem dX3_lower_13 : decode cX3_lower 13 = .ok (.iload_n 3, 1) := by decide +kernel
theorem dX3_lower_14 : decode cX3_lower 14 = .ok (.invokevirtual 95, 3) := by decide +kernel
theorem dX3_lower_17 : decode cX3_lower 17 = .ok (.iconst 1, 1) := by decide +kernel
theorem dX3_lower_18 : decode cX3_lower 18 = .ok (.ixor, 1) := by decide +kernel
theorem dX3_lower_19 : decode cX3_lower 19 = .ok (.istore 6, 2) := by decide +kernel
theorem dX3_lower_21 : decode cX3_lower 21 = .ok (.iload 5, 2) := by decide +kernel
theorem dX3_lower_23 : decode cX3_lower 23 = .ok (.iconst (-1), 1) := by decide +kernel
theorem dX3_lower_24 : decode cX3_lower 24 = .ok (.if_icmp .eq 26, 3) := by decide +kernel
theorem dX3_lower_27 : decode cX3_lower 27 = .ok (.aload_n 0, 1) := by decide +kernel
theorem dX3_lower_28 : decode cX3_lower 28 = .ok (.getfield 50, 3) := by decide +kernel
theorem dX3_lower_31 : decode cX3_lower 31 = .ok (.iload 6, 2) := by decide +kernel
theorem dX3_lower_33 : decode cX3_lower 33 = .ok (.iaload, 1) := by decide +kernel
theorem dX3_lower_34 : decode cX3_lower 34 = .ok (.iconst (-1), 1) := by decide +kernel
theorem dX3_lower_35 : decode cX3_lower 35 = .ok (.if_icmp .eq 17, 3) := by decide +kernel
theorem dX3_lower_38 : decode cX3_lower 38 = .ok (.aload_n 0, 1) := by decide +kernel
theorem dX3_lower_39 : decode cX3_lower 39 = .ok (.getfield 50, 3) := by decide +kernel
theorem dX3_lower_42 : decode cX3_lower 42 = .ok (.iload 6, 2) := by decide +kernel
theorem dX3_lower_44 : decode cX3_lower 44 = .ok (.iaload, 1) := by decide +kernel
theorem dX3_lower_45 : decode cX3_lower 45 = .ok (.iload 5, 2) := by decide +kernel
theorem dX3_lower_47 : decode cX3_lower 47 = .ok (.if_icmp .gt 5, 3) := by decide +kernel
theorem dX3_lower_50 : decode cX3_lower 50 = .ok (.iconst 0, 1) := by decide +kernel
theorem dX3_lower_51 : decode cX3_lower 51 = .ok (.ireturn, 1) := by decide +kernel
theorem dX3_lower_52 : decode cX3_lower 52 = .ok (.aload_n 0, 1) := by decide +kernel
theorem dX3_lower_53 : decode cX3_lower 53 = .ok (.getfield 50, 3) := by decide +kernel
theorem dX3_lower_56 : decode cX3_lower 56 = .ok (.iload 6, 2) := by decide +kernel
theorem dX3_lower_58 : decode cX3_lower 58 = .ok (.iload 5, 2) := by decide +kernel
theorem dX3_lower_60 : decode cX3_lower 60 = .ok (.iastore, 1) := by decide +kernel
theorem dX3_lower_61 : decode cX3_lower 61 = .ok (.iconst 1, 1) := by decide +kernel
theorem dX3_lower_62 : decode cX3_lower 62 = .ok (.ireturn, 1) := by decide +kernel
set_option maxRecDepth 20000 in
theorem ggX3_secondsTo_X3_to : GoodIn wsX3_secondsTo wsX3_to := goodIn_r _ [8, 9, 10, 29, 30, 31, 32, 33, 34, 35, 36, 37, 38, 39, 40, 41, 42, 43, 44, 45, 46, 47, 48, 49, 50, 51, 52] (by decide +kernel) (by decide +kernel)
set_option maxRecDepth 20000 in
theorem gX3_secondsTo_X3_to : GoodIn wsX3_secondsTo (wsV RX3 95 RX3 yX3_to wsX3_to) := goodIn_app (goodIn_of _ (by decide +kernel)) ggX3_secondsTo_X3_to
set_option maxRecDepth 20000 in
theorem ggX3_secondsTo_X3_from : GoodIn wsX3_secondsTo wsX3_from := goodIn_r _ [14, 10, 9, 29, 30, 31, 32, 33, 34, 35, 36, 37, 38, 39, 40, 41, 42, 43, 44, 45, 46, 47, 48, 49, 50, 51, 52] (by decide +kernel) (by decide +kernel)
set_option maxRecDepth 20000 in
theorem gX3_secondsTo_X3_from : GoodIn wsX3_secondsTo (wsV RX3 106 RX3 yX3_from wsX3_from) := goodIn_app (goodIn_of _ (by decide +kernel)) ggX3_secondsTo_X3_from
set_option maxRecDepth 20000 in
theorem ggX3_secondsTo_X3_mayGo : GoodIn wsX3_secondsTo wsX3_mayGo := goodIn_r _ [18, 19, 4, 5, 6, 7, 8, 9, 10, 20, 21, 22, 23, 24, 25, 26, 27, 28, 29, 30, 31, 32, 33, 34, 35, 36, 37, 38, 39, 40, 41, 42, 43, 44, 45, 46, 47, 48, 49, 50, 51, 52] (by decide +kernel) (by decide +kernel)
set_option maxRecDepth 20000 in
theorem gX3_secondsTo_X3_mayGo : GoodIn wsX3_secondsTo (wsV RX3 109 RX3 yX3_mayGo wsX3_mayGo) := goodIn_app (goodIn_of _ (by decide +kernel)) ggX3_secondsTo_X3_mayGo
theorem dX3_secondsTo_0 : decode cX3_secondsTo 0 = .ok (.iload_n 3, 1) := by decide +kernel
theorem dX3_secondsTo_1 : decode cX3_secondsTo 1 = .ok (.iload_n 2, 1) := by decide +kernel
theorem dX3_secondsTo_2 : decode cX3_secondsTo 2 = .ok (.if_icmp .ne 5, 3) := by decide +kernel
theorem dX3_secondsTo_5 : decode cX3_secondsTo 5 = .ok (.iconst 0, 1) := by decide +kernel
theorem dX3_secondsTo_6 : decode cX3_secondsTo 6 = .ok (.ireturn, 1) := by decide +kernel
theorem dX3_secondsTo_7 : decode cX3_secondsTo 7 = .ok (.iconst (-1), 1) := by decide +kernel
theorem dX3_secondsTo_8 : decode cX3_secondsTo 8 = .ok (.istore 5, 2) := by decide +kernel
theorem dX3_secondsTo_10 : decode cX3_secondsTo 10 = .ok (.iconst 0, 1) := by decide +kernel
theorem dX3_secondsTo_11 : decode cX3_secondsTo 11 = .ok (.istore 6, 2) := by decide +kernel
theorem dX3_secondsTo_13 : decode cX3_secondsTo 13 = .ok (.iload 6, 2) := by decide +kernel
theorem dX3_secondsTo_15 : decode cX3_secondsTo 15 = .ok (.aload_n 0, 1) := by decide +kernel
theorem dX3_secondsTo_16 : decode cX3_secondsTo 16 = .ok (.getfield 73, 3) := by decide +kernel
theorem dX3_secondsTo_19 : decode cX3_secondsTo 19 = .ok (.if_icmp .ge 117, 3) := by decide +kernel
theorem dX3_secondsTo_22 : decode cX3_secondsTo 22 = .ok (.iconst 0, 1) := by decide +kernel
theorem dX3_secondsTo_23 : decode cX3_secondsTo 23 = .ok (.istore 7, 2) := by decide +kernel
theorem dX3_secondsTo_25 : decode cX3_secondsTo 25 = .ok (.iload 7, 2) := by decide +kernel
theorem dX3_secondsTo_27 : decode cX3_secondsTo 27 = .ok (.iconst 2, 1) := by decide +kernel
theorem dX3_secondsTo_28 : decode cX3_secondsTo 28 = .ok (.if_icmp .ge 102, 3) := by decide +kernel
theorem dX3_secondsTo_31 : decode cX3_secondsTo 31 = .ok (.aload_n 0, 1) := by decide +kernel
theorem dX3_secondsTo_32 : decode cX3_secondsTo 32 = .ok (.iload 6, 2) := by decide +kernel
theorem dX3_secondsTo_34 : decode cX3_secondsTo 34 = .ok (.iload 7, 2) := by decide +kernel
theorem dX3_secondsTo_36 : decode cX3_secondsTo 36 = .ok (.invokevirtual 95, 3) := by decide +kernel
theorem dX3_secondsTo_39 : decode cX3_secondsTo 39 = .ok (.iconst 2, 1) := by decide +kernel
theorem dX3_secondsTo_40 : decode cX3_secondsTo 40 = .ok (.idiv, 1) := by decide +kernel
theorem dX3_secondsTo_41 : decode cX3_secondsTo 41 = .ok (.iload_n 3, 1) := by decide +kernel
theorem dX3_secondsTo_42 : decode cX3_secondsTo 42 = .ok (.if_icmp .ne 82, 3) := by decide +kernel
theorem dX3_secondsTo_45 : decode cX3_secondsTo 45 = .ok (.aload_n 0, 1) := by decide +kernel
theorem dX3_secondsTo_46 : decode cX3_secondsTo 46 = .ok (.getfield 50, 3) := by decide +kernel
theorem dX3_secondsTo_49 : decode cX3_secondsTo 49 = .ok (.aload_n 0, 1) := by decide +kernel
theorem dX3_secondsTo_50 : decode cX3_secondsTo 50 = .ok (.iload 6, 2) := by decide +kernel
theorem dX3_secondsTo_52 : decode cX3_secondsTo 52 = .ok (.iload 7, 2) := by decide +kernel
theorem dX3_secondsTo_54 : decode cX3_secondsTo 54 = .ok (.invokevirtual 106, 3) := by decide +kernel
theorem dX3_secondsTo_57 : decode cX3_secondsTo 57 = .ok (.iaload, 1) := by decide +kernel
theorem dX3_secondsTo_58 : decode cX3_secondsTo 58 = .ok (.iconst (-1), 1) := by decide +kernel
theorem dX3_secondsTo_59 : decode cX3_secondsTo 59 = .ok (.if_icmp .eq 65, 3) := by decide +kernel
theorem dX3_secondsTo_62 : decode cX3_secondsTo 62 = .ok (.aload_n 0, 1) := by decide +kernel
theorem dX3_secondsTo_63 : decode cX3_secondsTo 63 = .ok (.iload_n 1, 1) := by decide +kernel
theorem dX3_secondsTo_64 : decode cX3_secondsTo 64 = .ok (.iload 6, 2) := by decide +kernel
theorem dX3_secondsTo_66 : decode cX3_secondsTo 66 = .ok (.iload 7, 2) := by decide +kernel
theorem dX3_secondsTo_68 : decode cX3_secondsTo 68 = .ok (.iload 4, 2) := by decide +kernel
theorem dX3_secondsTo_70 : decode cX3_secondsTo 70 = .ok (.invokevirtual 109, 3) := by decide +kernel
theorem dX3_secondsTo_73 : decode cX3_secondsTo 73 = .ok (.ifCond .ne 6, 3) := by decide +kernel
theorem dX3_secondsTo_76 : decode cX3_secondsTo 76 = .ok (.goto 48, 3) := by decide +kernel
theorem dX3_secondsTo_79 : decode cX3_secondsTo 79 = .ok (.aload_n 0, 1) := by decide +kernel
theorem dX3_secondsTo_80 : decode cX3_secondsTo 80 = .ok (.getfield 50, 3) := by decide +kernel
theorem dX3_secondsTo_83 : decode cX3_secondsTo 83 = .ok (.aload_n 0, 1) := by decide +kernel
theorem dX3_secondsTo_84 : decode cX3_secondsTo 84 = .ok (.iload 6, 2) := by decide +kernel
theorem dX3_secondsTo_86 : decode cX3_secondsTo 86 = .ok (.iload 7, 2) := by decide +kernel
theorem dX3_secondsTo_88 : decode cX3_secondsTo 88 = .ok (.invokevirtual 106, 3) := by decide +kernel
theorem dX3_secondsTo_91 : decode cX3_secondsTo 91 = .ok (.iaload, 1) := by decide +kernel
theorem dX3_secondsTo_92 : decode cX3_secondsTo 92 = .ok (.aload_n 0, 1) := by decide +kernel
theorem dX3_secondsTo_93 : decode cX3_secondsTo 93 = .ok (.getfield 35, 3) := by decide +kernel
theorem dX3_secondsTo_96 : decode cX3_secondsTo 96 = .ok (.iload 6, 2) := by decide +kernel
theorem dX3_secondsTo_98 : decode cX3_secondsTo 98 = .ok (.iaload, 1) := by decide +kernel
theorem dX3_secondsTo_99 : decode cX3_secondsTo 99 = .ok (.iadd, 1) := by decide +kernel
theorem dX3_secondsTo_100 : decode cX3_secondsTo 100 = .ok (.istore 8, 2) := by decide +kernel
theorem dX3_secondsTo_102 : decode cX3_secondsTo 102 = .ok (.iload 5, 2) := by decide +kernel
theorem dX3_secondsTo_104 : decode cX3_secondsTo 104 = .ok (.iconst (-1), 1) := by decide +kernel
theorem dX3_secondsTo_105 : decode cX3_secondsTo 105 = .ok (.if_icmp .eq 10, 3) := by decide +kernel
theorem dX3_secondsTo_108 : decode cX3_secondsTo 108 = .ok (.iload 8, 2) := by decide +kernel
theorem dX3_secondsTo_110 : decode cX3_secondsTo 110 = .ok (.iload 5, 2) := by decide +kernel
theorem dX3_secondsTo_112 : decode cX3_secondsTo 112 = .ok (.if_icmp .ge 8, 3) := by decide +kernel
