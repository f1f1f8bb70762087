theorem dX1_shutPieces_12 : decode cX1_shutPieces 12 = .ok (.aload_n 0, 1) := by decide +kernel
theorem dX1_shutPieces_13 : decode cX1_shutPieces 13 = .ok (.getfield 25, 3) := by decide +kernel
theorem dX1_shutPieces_16 : decode cX1_shutPieces 16 = .ok (.iload_n 2, 1) := by decide +kernel
theorem dX1_shutPieces_17 : decode cX1_shutPieces 17 = .ok (.baload, 1) := by decide +kernel
theorem dX1_shutPieces_18 : decode cX1_shutPieces 18 = .ok (.ifCond .eq 6, 3) := by decide +kernel
theorem dX1_shutPieces_21 : decode cX1_shutPieces 21 = .ok (.iinc 1 1, 3) := by decide +kernel
theorem dX1_shutPieces_24 : decode cX1_shutPieces 24 = .ok (.iinc 2 1, 3) := by decide +kernel
theorem dX1_shutPieces_27 : decode cX1_shutPieces 27 = .ok (.goto (-23), 3) := by decide +kernel
theorem dX1_shutPieces_30 : decode cX1_shutPieces 30 = .ok (.iload_n 1, 1) := by decide +kernel
theorem dX1_shutPieces_31 : decode cX1_shutPieces 31 = .ok (.ireturn, 1) := by decide +kernel
theorem dX1_hasPieceFor_0 : decode cX1_hasPieceFor 0 = .ok (.iconst 0, 1) := by decide +kernel
theorem dX1_hasPieceFor_1 : decode cX1_hasPieceFor 1 = .ok (.istore_n 2, 1) := by decide +kernel
theorem dX1_hasPieceFor_2 : decode cX1_hasPieceFor 2 = .ok (.iload_n 2, 1) := by decide +kernel
theorem dX1_hasPieceFor_3 : decode cX1_hasPieceFor 3 = .ok (.aload_n 0, 1) := by decide +kernel
theorem dX1_hasPieceFor_4 : decode cX1_hasPieceFor 4 = .ok (.getfield 51, 3) := by decide +kernel
theorem dX1_hasPieceFor_7 : decode cX1_hasPieceFor 7 = .ok (.if_icmp .ge 21, 3) := by decide +kernel
theorem dX1_hasPieceFor_10 : decode cX1_hasPieceFor 10 = .ok (.aload_n 0, 1) := by decide +kernel
theorem dX1_hasPieceFor_11 : decode cX1_hasPieceFor 11 = .ok (.getfield 18, 3) := by decide +kernel
theorem dX1_hasPieceFor_14 : decode cX1_hasPieceFor 14 = .ok (.iload_n 2, 1) := by decide +kernel
theorem dX1_hasPieceFor_15 : decode cX1_hasPieceFor 15 = .ok (.iaload, 1) := by decide +kernel
theorem dX1_hasPieceFor_16 : decode cX1_hasPieceFor 16 = .ok (.iload_n 1, 1) := by decide +kernel
theorem dX1_hasPieceFor_17 : decode cX1_hasPieceFor 17 = .ok (.if_icmp .lt 5, 3) := by decide +kernel
theorem dX1_hasPieceFor_20 : decode cX1_hasPieceFor 20 = .ok (.iconst 1, 1) := by decide +kernel
theorem dX1_hasPieceFor_21 : decode cX1_hasPieceFor 21 = .ok (.ireturn, 1) := by decide +kernel
theorem dX1_hasPieceFor_22 : decode cX1_hasPieceFor 22 = .ok (.iinc 2 1, 3) := by decide +kernel
theorem dX1_hasPieceFor_25 : decode cX1_hasPieceFor 25 = .ok (.goto (-23), 3) := by decide +kernel
theorem dX1_hasPieceFor_28 : decode cX1_hasPieceFor 28 = .ok (.iconst 0, 1) := by decide +kernel
theorem dX1_hasPieceFor_29 : decode cX1_hasPieceFor 29 = .ok (.ireturn, 1) := by decide +kernel
theorem dX1_mayLeave_0 : decode cX1_mayLeave 0 = .ok (.iload_n 1, 1) := by decide +kernel
theorem dX1_mayLeave_1 : decode cX1_mayLeave 1 = .ok (.iconst 2, 1) := by decide +kernel
theorem dX1_mayLeave_2 : decode cX1_mayLeave 2 = .ok (.irem, 1) := by decide +kernel
theorem dX1_mayLeave_3 : decode cX1_mayLeave 3 = .ok (.iconst 1, 1) := by decide +kernel
theorem dX1_mayLeave_4 : decode cX1_mayLeave 4 = .ok (.if_icmp .eq 14, 3) := by decide +kernel
theorem dX1_mayLeave_7 : decode cX1_mayLeave 7 = .ok (.aload_n 0, 1) := by decide +kernel
theorem dX1_mayLeave_8 : decode cX1_mayLeave 8 = .ok (.getfield 21, 3) := by decide +kernel
theorem dX1_mayLeave_11 : decode cX1_mayLeave 11 = .ok (.iload_n 1, 1) := by decide +kernel
theorem dX1_mayLeave_12 : decode cX1_mayLeave 12 = .ok (.iconst 2, 1) := by decide +kernel
theorem dX1_mayLeave_13 : decode cX1_mayLeave 13 = .ok (.idiv, 1) := by decide +kernel
theorem dX1_mayLeave_14 : decode cX1_mayLeave 14 = .ok (.baload, 1) := by decide +kernel
theorem dX1_mayLeave_15 : decode cX1_mayLeave 15 = .ok (.ifCond .eq 7, 3) := by decide +kernel
theorem dX1_mayLeave_18 : decode cX1_mayLeave 18 = .ok (.iconst 1, 1) := by decide +kernel
theorem dX1_mayLeave_19 : decode cX1_mayLeave 19 = .ok (.goto 4, 3) := by decide +kernel
theorem dX1_mayLeave_22 : decode cX1_mayLeave 22 = .ok (.iconst 0, 1) := by decide +kernel
theorem dX1_mayLeave_23 : decode cX1_mayLeave 23 = .ok (.ireturn, 1) := by decide +kernel
theorem dX1_mayEnter_0 : decode cX1_mayEnter 0 = .ok (.iload_n 1, 1) := by decide +kernel
theorem dX1_mayEnter_1 : decode cX1_mayEnter 1 = .ok (.iconst 2, 1) := by decide +kernel
theorem dX1_mayEnter_2 : decode cX1_mayEnter 2 = .ok (.idiv, 1) := by decide +kernel
theorem dX1_mayEnter_3 : decode cX1_mayEnter 3 = .ok (.istore 4, 2) := by decide +kernel
theorem dX1_mayEnter_5 : decode cX1_mayEnter 5 = .ok (.aload_n 0, 1) := by decide +kernel
theorem dX1_mayEnter_6 : decode cX1_mayEnter 6 = .ok (.getfield 25, 3) := by decide +kernel
theorem dX1_mayEnter_9 : decode cX1_mayEnter 9 = .ok (.iload 4, 2) := by decide +kernel
theorem dX1_mayEnter_11 : decode cX1_mayEnter 11 = .ok (.baload, 1) := by decide +kernel
theorem dX1_mayEnter_12 : decode cX1_mayEnter 12 = .ok (.ifCond .ne 48, 3) := by decide +kernel
theorem dX1_mayEnter_15 : decode cX1_mayEnter 15 = .ok (.aload_n 0, 1) := by decide +kernel
theorem dX1_mayEnter_16 : decode cX1_mayEnter 16 = .ok (.getfield 28, 3) := by decide +kernel
theorem dX1_mayEnter_19 : decode cX1_mayEnter 19 = .ok (.iload 4, 2) := by decide +kernel
theorem dX1_mayEnter_21 : decode cX1_mayEnter 21 = .ok (.iaload, 1) := by decide +kernel
theorem dX1_mayEnter_22 : decode cX1_mayEnter 22 = .ok (.iload_n 3, 1) := by decide +kernel
theorem dX1_mayEnter_23 : decode cX1_mayEnter 23 = .ok (.ishr, 1) := by decide +kernel
theorem dX1_mayEnter_24 : decode cX1_mayEnter 24 = .ok (.iconst 1, 1) := by decide +kernel
theorem dX1_mayEnter_25 : decode cX1_mayEnter 25 = .ok (.iand, 1) := by decide +kernel
theorem dX1_mayEnter_26 : decode cX1_mayEnter 26 = .ok (.ifCond .ne 34, 3) := by decide +kernel
theorem dX1_mayEnter_29 : decode cX1_mayEnter 29 = .ok (.aload_n 0, 1) := by decide +kernel
theorem dX1_mayEnter_30 : decode cX1_mayEnter 30 = .ok (.getfield 18, 3) := by decide +kernel
theorem dX1_mayEnter_33 : decode cX1_mayEnter 33 = .ok (.iload 4, 2) := by decide +kernel
theorem dX1_mayEnter_35 : decode cX1_mayEnter 35 = .ok (.iaload, 1) := by decide +kernel
theorem dX1_mayEnter_36 : decode cX1_mayEnter 36 = .ok (.iload_n 2, 1) := by decide +kernel
theorem dX1_mayEnter_37 : decode cX1_mayEnter 37 = .ok (.if_icmp .lt 23, 3) := by decide +kernel
theorem dX1_mayEnter_40 : decode cX1_mayEnter 40 = .ok (.iload_n 1, 1) := by decide +kernel
theorem dX1_mayEnter_41 : decode cX1_mayEnter 41 = .ok (.iconst 2, 1) := by decide +kernel
theorem dX1_mayEnter_42 : decode cX1_mayEnter 42 = .ok (.irem, 1) := by decide +kernel
theorem dX1_mayEnter_43 : decode cX1_mayEnter 43 = .ok (.ifCond .eq 13, 3) := by decide +kernel
theorem dX1_mayEnter_46 : decode cX1_mayEnter 46 = .ok (.aload_n 0, 1) := by decide +kernel
theorem dX1_mayEnter_47 : decode cX1_mayEnter 47 = .ok (.getfield 21, 3) := by decide +kernel
theorem dX1_mayEnter_50 : decode cX1_mayEnter 50 = .ok (.iload 4, 2) := by decide +kernel
theorem dX1_mayEnter_52 : decode cX1_mayEnter 52 = .ok (.baload, 1) := by decide +kernel
theorem dX1_mayEnter_53 : decode cX1_mayEnter 53 = .ok (.ifCond .eq 7, 3) := by decide +kernel
theorem dX1_mayEnter_56 : decode cX1_mayEnter 56 = .ok (.iconst 1, 1) := by decide +kernel
theorem dX1_mayEnter_57 : decode cX1_mayEnter 57 = .ok (.goto 4, 3) := by decide +kernel
theorem dX1_mayEnter_60 : decode cX1_mayEnter 60 = .ok (.iconst 0, 1) := by decide +kernel
theorem dX1_mayEnter_61 : decode cX1_mayEnter 61 = .ok (.ireturn, 1) := by decide +kernel
set_option maxRecDepth 20000 in
theorem ggX2_init_X1_init : GoodIn wsX2_init wsX1_init := goodIn_r _ [20, 21, 2, 3, 12, 22, 23, 24, 25, 26, 27, 28, 29, 30, 31, 32, 33, 34, 35, 42, 43, 44, 45, 46, 47, 48, 49, 50, 51, 52, 53, 54, 55] (by decide +kernel) (by decide +kernel)
set_option maxRecDepth 20000 in
theorem gX2_init_X1_init_n11 : GoodIn wsX2_init (wsX1_init) := ggX2_init_X1_init
set_option maxRecDepth 20000 in
theorem ggX2_init_X0_init : GoodIn wsX2_init wsX0_init := goodIn_r _ [37, 38, 2, 3, 25, 39, 12, 40, 41, 68, 69, 70] (by decide +kernel) (by decide +kernel)
set_option maxRecDepth 20000 in
theorem gX2_init_X0_init_n18 : GoodIn wsX2_init (wsX0_init) := ggX2_init_X0_init
theorem dX2_init_0 : decode cX2_init 0 = .ok (.aload_n 0, 1) := by decide +kernel
theorem dX2_init_1 : decode cX2_init 1 = .ok (.invokespecial 3, 3) := by decide +kernel
theorem dX2_init_4 : decode cX2_init 4 = .ok (.aload_n 0, 1) := by decide +kernel
theorem dX2_init_5 : decode cX2_init 5 = .ok (.new 9, 3) := by decide +kernel
theorem dX2_init_8 : decode cX2_init 8 = .ok (.dup, 1) := by decide +kernel
theorem dX2_init_9 : decode cX2_init 9 = .ok (.invokespecial 11, 3) := by decide +kernel
theorem dX2_init_12 : decode cX2_init 12 = .ok (.putfield 12, 3) := by decide +kernel
theorem dX2_init_15 : decode cX2_init 15 = .ok (.aload_n 0, 1) := by decide +kernel
theorem dX2_init_16 : decode cX2_init 16 = .ok (.new 16, 3) := by decide +kernel
theorem dX2_init_19 : decode cX2_init 19 = .ok (.dup, 1) := by decide +kernel
theorem dX2_init_20 : decode cX2_init 20 = .ok (.invokespecial 18, 3) := by decide +kernel
theorem dX2_init_23 : decode cX2_init 23 = .ok (.putfield 19, 3) := by decide +kernel
theorem dX2_init_26 : decode cX2_init 26 = .ok (.aload_n 0, 1) := by decide +kernel
theorem dX2_init_27 : decode cX2_init 27 = .ok (.bipush 6, 2) := by decide +kernel
theorem dX2_init_29 : decode cX2_init 29 = .ok (.newarray .int, 2) := by decide +kernel
theorem dX2_init_31 : decode cX2_init 31 = .ok (.putfield 23, 3) := by decide +kernel
theorem dX2_init_34 : decode cX2_init 34 = .ok (.aload_n 0, 1) := by decide +kernel
theorem dX2_init_35 : decode cX2_init 35 = .ok (.bipush 8, 2) := by decide +kernel
theorem dX2_init_37 : decode cX2_init 37 = .ok (.newarray .int, 2) := by decide +kernel
theorem dX2_init_39 : decode cX2_init 39 = .ok (.putfield 27, 3) := by decide +kernel
theorem dX2_init_42 : decode cX2_init 42 = .ok (.aload_n 0, 1) := by decide +kernel
theorem dX2_init_43 : decode cX2_init 43 = .ok (.bipush 40, 2) := by decide +kernel
theorem dX2_init_45 : decode cX2_init 45 = .ok (.newarray .int, 2) := by decide +kernel
theorem dX2_init_47 : decode cX2_init 47 = .ok (.putfield 30, 3) := by decide +kernel
theorem dX2_init_50 : decode cX2_init 50 = .ok (.aload_n 0, 1) := by decide +kernel
theorem dX2_init_51 : decode cX2_init 51 = .ok (.bipush 8, 2) := by decide +kernel
theorem dX2_init_53 : decode cX2_init 53 = .ok (.bipush 8, 2) := by decide +kernel
theorem dX2_init_55 : decode cX2_init 55 = .ok (.multianewarray 33 2, 4) := by decide +kernel
theorem dX2_init_59 : decode cX2_init 59 = .ok (.putfield 35, 3) := by decide +kernel
theorem dX2_init_62 : decode cX2_init 62 = .ok (.aload_n 0, 1) := by decide +kernel
theorem dX2_init_63 : decode cX2_init 63 = .ok (.bipush 8, 2) := by decide +kernel
theorem dX2_init_65 : decode cX2_init 65 = .ok (.newarray .int, 2) := by decide +kernel
theorem dX2_init_67 : decode cX2_init 67 = .ok (.putfield 38, 3) := by decide +kernel
theorem dX2_init_70 : decode cX2_init 70 = .ok (.return_, 1) := by decide +kernel
set_option maxRecDepth 20000 in
theorem ggX2_piece_X1_addPiece : GoodIn wsX2_piece wsX1_addPiece := goodIn_r _ [10, 11, 12, 13, 14, 15, 28, 29, 30, 31, 32, 33, 34, 35, 36, 37, 38, 39, 40, 41] (by decide +kernel) (by decide +kernel)
set_option maxRecDepth 20000 in
theorem gX2_piece_X1_addPiece_n62 : GoodIn wsX2_piece (wsX1_addPiece) := ggX2_piece_X1_addPiece
theorem dX2_piece_0 : decode cX2_piece 0 = .ok (.iload_n 1, 1) := by decide +kernel
theorem dX2_piece_1 : decode cX2_piece 1 = .ok (.ifCond .lt 9, 3) := by decide +kernel
theorem dX2_piece_4 : decode cX2_piece 4 = .ok (.iload_n 1, 1) := by decide +kernel
theorem dX2_piece_5 : decode cX2_piece 5 = .ok (.bipush 9, 2) := by decide +kernel
theorem dX2_piece_7 : decode cX2_piece 7 = .ok (.if_icmp .le 13, 3) := by decide +kernel
theorem dX2_piece_10 : decode cX2_piece 10 = .ok (.new 41, 3) := by decide +kernel
theorem dX2_piece_13 : decode cX2_piece 13 = .ok (.dup, 1) := by decide +kernel
theorem dX2_piece_14 : decode cX2_piece 14 = .ok (.ldc 43, 2) := by decide +kernel
theorem dX2_piece_16 : decode cX2_piece 16 = .ok (.invokespecial 45, 3) := by decide +kernel
theorem dX2_piece_19 : decode cX2_piece 19 = .ok (.athrow, 1) := by decide +kernel
theorem dX2_piece_20 : decode cX2_piece 20 = .ok (.iload_n 2, 1) := by decide +kernel
theorem dX2_piece_21 : decode cX2_piece 21 = .ok (.iconst 1, 1) := by decide +kernel
theorem dX2_piece_22 : decode cX2_piece 22 = .ok (.if_icmp .lt 10, 3) := by decide +kernel
theorem dX2_piece_25 : decode cX2_piece 25 = .ok (.iload_n 2, 1) := by decide +kernel
theorem dX2_piece_26 : decode cX2_piece 26 = .ok (.sipush 1000, 3) := by decide +kernel
theorem dX2_piece_29 : decode cX2_piece 29 = .ok (.if_icmp .le 13, 3) := by decide +kernel
theorem dX2_piece_32 : decode cX2_piece 32 = .ok (.new 41, 3) := by decide +kernel
theorem dX2_piece_35 : decode cX2_piece 35 = .ok (.dup, 1) := by decide +kernel
theorem dX2_piece_36 : decode cX2_piece 36 = .ok (.ldc 48, 2) := by decide +kernel
theorem dX2_piece_38 : decode cX2_piece 38 = .ok (.invokespecial 45, 3) := by decide +kernel
theorem dX2_piece_41 : decode cX2_piece 41 = .ok (.athrow, 1) := by decide +kernel
theorem dX2_piece_42 : decode cX2_piece 42 = .ok (.aload_n 0, 1) := by decide +kernel
theorem dX2_piece_43 : decode cX2_piece 43 = .ok (.getfield 12, 3) := by decide +kernel
theorem dX2_piece_46 : decode cX2_piece 46 = .ok (.getfield 50, 3) := by decide +kernel
theorem dX2_piece_49 : decode cX2_piece 49 = .ok (.bipush 20, 2) := by decide +kernel
theorem dX2_piece_51 : decode cX2_piece 51 = .ok (.if_icmp .lt 13, 3) := by decide +kernel
theorem dX2_piece_54 : decode cX2_piece 54 = .ok (.new 54, 3) := by decide +kernel
theorem dX2_piece_57 : decode cX2_piece 57 = .ok (.dup, 1) := by decide +kernel
theorem dX2_piece_58 : decode cX2_piece 58 = .ok (.ldc 56, 2) := by decide +kernel
theorem dX2_piece_60 : decode cX2_piece 60 = .ok (.invokespecial 58, 3) := by decide +kernel
theorem dX2_piece_63 : decode cX2_piece 63 = .ok (.athrow, 1) := by decide +kernel
theorem dX2_piece_64 : decode cX2_piece 64 = .ok (.aload_n 0, 1) := by decide +kernel
theorem dX2_piece_65 : decode cX2_piece 65 = .ok (.dup, 1) := by decide +kernel
theorem dX2_piece_66 : decode cX2_piece 66 = .ok (.getfield 59, 3) := by decide +kernel
theorem dX2_piece_69 : decode cX2_piece 69 = .ok (.iconst 1, 1) := by decide +kernel
theorem dX2_piece_70 : decode cX2_piece 70 = .ok (.iadd, 1) := by decide +kernel
theorem dX2_piece_71 : decode cX2_piece 71 = .ok (.putfield 59, 3) := by decide +kernel
theorem dX2_piece_74 : decode cX2_piece 74 = .ok (.aload_n 0, 1) := by decide +kernel
theorem dX2_piece_75 : decode cX2_piece 75 = .ok (.getfield 12, 3) := by decide +kernel
theorem dX2_piece_78 : decode cX2_piece 78 = .ok (.iload_n 1, 1) := by decide +kernel
theorem dX2_piece_79 : decode cX2_piece 79 = .ok (.iload_n 2, 1) := by decide +kernel
theorem dX2_piece_80 : decode cX2_piece 80 = .ok (.iload_n 3, 1) := by decide +kernel
theorem dX2_piece_81 : decode cX2_piece 81 = .ok (.invokevirtual 62, 3) := by decide +kernel
theorem dX2_piece_84 : decode cX2_piece 84 = .ok (.ireturn, 1) := by decide +kernel
set_option maxRecDepth 20000 in
theorem ggX2_join_X2_needPiece : GoodIn wsX2_join wsX2_needPiece := goodIn_ca (goodIn_r _ [8, 1, 2, 3, 33, 34, 35, 36, 37, 38, 39, 40, 41, 42, 43, 44, 45, 46, 47, 48, 49, 50, 51, 52, 53, 54, 55, 56, 57, 58] (by decide +kernel) (by decide +kernel)) (goodIn_sub (fun _ h => List.mem_cons_of_mem _ (List.mem_append_left _ (List.mem_append_right _ h))) (by decide +kernel))
set_option maxRecDepth 20000 in
theorem gX2_join_X2_needPiece : GoodIn wsX2_join (wsV RX2 66 RX2 yX2_needPiece wsX2_needPiece) := goodIn_app (goodIn_of _ (by decide +kernel)) ggX2_join_X2_needPiece
set_option maxRecDepth 20000 in
theorem ggX2_join_X2_needZeroOrOne : GoodIn wsX2_join wsX2_needZeroOrOne := goodIn_ca (goodIn_r _ [11, 1, 2] (by decide +kernel) (by decide +kernel)) (goodIn_sub (fun _ h => List.mem_cons_of_mem _ (List.mem_append_left _ (List.mem_append_right _ h))) (by decide +kernel))
set_option maxRecDepth 20000 in
theorem gX2_join_X2_needZeroOrOne : GoodIn wsX2_join (va_wsS RX2 70 yX2_needZeroOrOne wsX2_needZeroOrOne) := goodIn_app (goodIn_of _ (by decide +kernel)) ggX2_join_X2_needZeroOrOne
set_option maxRecDepth 20000 in
theorem ggX2_join_X2_joinEnds : GoodIn wsX2_join wsX2_joinEnds := goodIn_ca (goodIn_ca (goodIn_r _ [15, 1, 2, 16, 17, 3, 18, 19, 20, 21, 22, 23, 24, 25, 26, 27, 28, 29, 30, 31, 32, 33, 34, 35, 36, 37, 38, 39, 40, 41, 42, 43, 44, 45, 46, 47, 48, 49, 50, 51, 52, 53, 54, 55, 56, 57, 58] (by decide +kernel) (by decide +kernel)) (goodIn_sub (fun _ h => List.mem_cons_of_mem _ (List.mem_append_left _ (List.mem_append_right _ h))) (by decide +kernel))) (goodIn_sub (fun _ h => List.mem_cons_of_mem _ (List.mem_append_right _ h)) (by decide +kernel))
set_option maxRecDepth 20000 in
theorem gX2_join_X2_joinEnds : GoodIn wsX2_join (wsV RX2 80 RX2 yX2_joinEnds wsX2_joinEnds) := goodIn_app (goodIn_of _ (by decide +kernel)) ggX2_join_X2_joinEnds
theorem dX2_join_0 : decode cX2_join 0 = .ok (.aload_n 0, 1) := by decide +kernel
theorem dX2_join_1 : decode cX2_join 1 = .ok (.iload_n 1, 1) := by decide +kernel
theorem dX2_join_2 : decode cX2_join 2 = .ok (.invokevirtual 66, 3) := by decide +kernel
theorem dX2_join_5 : decode cX2_join 5 = .ok (.aload_n 0, 1) := by decide +kernel
theorem dX2_join_6 : decode cX2_join 6 = .ok (.iload_n 3, 1) := by decide +kernel
theorem dX2_join_7 : decode cX2_join 7 = .ok (.invokevirtual 66, 3) := by decide +kernel
theorem dX2_join_10 : decode cX2_join 10 = .ok (.iload_n 2, 1) := by decide +kernel
theorem dX2_join_11 : decode cX2_join 11 = .ok (.invokestatic 70, 3) := by decide +kernel
theorem dX2_join_14 : decode cX2_join 14 = .ok (.iload 4, 2) := by decide +kernel
theorem dX2_join_16 : decode cX2_join 16 = .ok (.invokestatic 70, 3) := by decide +kernel
theorem dX2_join_19 : decode cX2_join 19 = .ok (.iload_n 1, 1) := by decide +kernel
theorem dX2_join_20 : decode cX2_join 20 = .ok (.iload_n 3, 1) := by decide +kernel
theorem dX2_join_21 : decode cX2_join 21 = .ok (.if_icmp .ne 13, 3) := by decide +kernel
theorem dX2_join_24 : decode cX2_join 24 = .ok (.new 41, 3) := by decide +kernel
theorem dX2_join_27 : decode cX2_join 27 = .ok (.dup, 1) := by decide +kernel
theorem dX2_join_28 : decode cX2_join 28 = .ok (.ldc 73, 2) := by decide +kernel
theorem dX2_join_30 : decode cX2_join 30 = .ok (.invokespecial 45, 3) := by decide +kernel
theorem dX2_join_33 : decode cX2_join 33 = .ok (.athrow, 1) := by decide +kernel
theorem dX2_join_34 : decode cX2_join 34 = .ok (.aload_n 0, 1) := by decide +kernel
theorem dX2_join_35 : decode cX2_join 35 = .ok (.getfield 12, 3) := by decide +kernel
theorem dX2_join_38 : decode cX2_join 38 = .ok (.getfield 75, 3) := by decide +kernel
theorem dX2_join_41 : decode cX2_join 41 = .ok (.iload_n 1, 1) := by decide +kernel
theorem dX2_join_42 : decode cX2_join 42 = .ok (.iaload, 1) := by decide +kernel
theorem dX2_join_43 : decode cX2_join 43 = .ok (.aload_n 0, 1) := by decide +kernel
theorem dX2_join_44 : decode cX2_join 44 = .ok (.getfield 12, 3) := by decide +kernel
theorem dX2_join_47 : decode cX2_join 47 = .ok (.getfield 75, 3) := by decide +kernel
theorem dX2_join_50 : decode cX2_join 50 = .ok (.iload_n 3, 1) := by decide +kernel
theorem dX2_join_51 : decode cX2_join 51 = .ok (.iaload, 1) := by decide +kernel
theorem dX2_join_52 : decode cX2_join 52 = .ok (.if_icmp .eq 13, 3) := by decide +kernel
theorem dX2_join_55 : decode cX2_join 55 = .ok (.new 41, 3) := by decide +kernel
theorem dX2_join_58 : decode cX2_join 58 = .ok (.dup, 1) := by decide +kernel
theorem dX2_join_59 : decode cX2_join 59 = .ok (.ldc 78, 2) := by decide +kernel
theorem dX2_join_61 : decode cX2_join 61 = .ok (.invokespecial 45, 3) := by decide +kernel
theorem dX2_join_64 : decode cX2_join 64 = .ok (.athrow, 1) := by decide +kernel
theorem dX2_join_65 : decode cX2_join 65 = .ok (.aload_n 0, 1) := by decide +kernel
theorem dX2_join_66 : decode cX2_join 66 = .ok (.iconst 2, 1) := by decide +kernel
theorem dX2_join_67 : decode cX2_join 67 = .ok (.iload_n 1, 1) := by decide +kernel
theorem dX2_join_68 : decode cX2_join 68 = .ok (.imul, 1) := by decide +kernel
theorem dX2_join_69 : decode cX2_join 69 = .ok (.iload_n 2, 1) := by decide +kernel
theorem dX2_join_70 : decode cX2_join 70 = .ok (.iadd, 1) := by decide +kernel
theorem dX2_join_71 : decode cX2_join 71 = .ok (.iconst 2, 1) := by decide +kernel
theorem dX2_join_72 : decode cX2_join 72 = .ok (.iload_n 3, 1) := by decide +kernel
theorem dX2_join_73 : decode cX2_join 73 = .ok (.imul, 1) := by decide +kernel
theorem dX2_join_74 : decode cX2_join 74 = .ok (.iload 4, 2) := by decide +kernel
theorem dX2_join_76 : decode cX2_join 76 = .ok (.iadd, 1) := by decide +kernel
theorem dX2_join_77 : decode cX2_join 77 = .ok (.iload 5, 2) := by decide +kernel
theorem dX2_join_79 : decode cX2_join 79 = .ok (.invokevirtual 80, 3) := by decide +kernel
theorem dX2_join_82 : decode cX2_join 82 = .ok (.ireturn, 1) := by decide +kernel
set_option maxRecDepth 20000 in
theorem ggX2_lift_X2_needPiece : GoodIn wsX2_lift wsX2_needPiece := goodIn_ca (goodIn_r _ [8, 1, 2, 3, 30, 31, 32, 33, 34, 35, 36, 37, 38, 39, 40, 41, 42, 43, 44, 45, 46, 47, 48, 49, 50, 51, 52, 53, 54, 55] (by decide +kernel) (by decide +kernel)) (goodIn_sub (fun _ h => List.mem_cons_of_mem _ (List.mem_append_left _ (List.mem_append_right _ h))) (by decide +kernel))
set_option maxRecDepth 20000 in
theorem gX2_lift_X2_needPiece : GoodIn wsX2_lift (wsV RX2 66 RX2 yX2_needPiece wsX2_needPiece) := goodIn_app (goodIn_of _ (by decide +kernel)) ggX2_lift_X2_needPiece
set_option maxRecDepth 20000 in
theorem ggX2_lift_X2_joinEnds : GoodIn wsX2_lift wsX2_joinEnds := goodIn_ca (goodIn_ca (goodIn_r _ [12, 1, 2, 13, 14, 3, 15, 16, 17, 18, 19, 20, 21, 22, 23, 24, 25, 26, 27, 28, 29, 30, 31, 32, 33, 34, 35, 36, 37, 38, 39, 40, 41, 42, 43, 44, 45, 46, 47, 48, 49, 50, 51, 52, 53, 54, 55] (by decide +kernel) (by decide +kernel)) (goodIn_sub (fun _ h => List.mem_cons_of_mem _ (List.mem_append_left _ (List.mem_append_right _ h))) (by decide +kernel))) (goodIn_sub (fun _ h => List.mem_cons_of_mem _ (List.mem_append_right _ h)) (by decide +kernel))
set_option maxRecDepth 20000 in
theorem gX2_lift_X2_joinEnds : GoodIn wsX2_lift (wsV RX2 80 RX2 yX2_joinEnds wsX2_joinEnds) := goodIn_app (goodIn_of _ (by decide +kernel)) ggX2_lift_X2_joinEnds
theorem dX2_lift_0 : decode cX2_lift 0 = .ok (.aload_n 0, 1) := by decide +kernel
theorem dX2_lift_1 : decode cX2_lift 1 = .ok (.iload_n 1, 1) := by decide +kernel
theorem dX2_lift_2 : decode cX2_lift 2 = .ok (.invokevirtual 66, 3) := by decide +kernel
theorem dX2_lift_5 : decode cX2_lift 5 = .ok (.aload_n 0, 1) := by decide +kernel
theorem dX2_lift_6 : decode cX2_lift 6 = .ok (.iload_n 2, 1) := by decide +kernel
theorem dX2_lift_7 : decode cX2_lift 7 = .ok (.invokevirtual 66, 3) := by decide +kernel
theorem dX2_lift_10 : decode cX2_lift 10 = .ok (.aload_n 0, 1) := by decide +kernel
theorem dX2_lift_11 : decode cX2_lift 11 = .ok (.getfield 12, 3) := by decide +kernel
theorem dX2_lift_14 : decode cX2_lift 14 = .ok (.getfield 75, 3) := by decide +kernel
theorem dX2_lift_17 : decode cX2_lift 17 = .ok (.iload_n 1, 1) := by decide +kernel
theorem dX2_lift_18 : decode cX2_lift 18 = .ok (.iaload, 1) := by decide +kernel
theorem dX2_lift_19 : decode cX2_lift 19 = .ok (.aload_n 0, 1) := by decide +kernel
theorem dX2_lift_20 : decode cX2_lift 20 = .ok (.getfield 12, 3) := by decide +kernel
theorem dX2_lift_23 : decode cX2_lift 23 = .ok (.getfield 75, 3) := by decide +kernel
theorem dX2_lift_26 : decode cX2_lift 26 = .ok (.iload_n 2, 1) := by decide +kernel
theorem dX2_lift_27 : decode cX2_lift 27 = .ok (.iaload, 1) := by decide +kernel
theorem dX2_lift_28 : decode cX2_lift 28 = .ok (.if_icmp .ne 13, 3) := by decide +kernel
theorem dX2_lift_31 : decode cX2_lift 31 = .ok (.new 41, 3) := by decide +kernel
theorem dX2_lift_34 : decode cX2_lift 34 = .ok (.dup, 1) := by decide +kernel
theorem dX2_lift_35 : decode cX2_lift 35 = .ok (.ldc 84, 2) := by decide +kernel
theorem dX2_lift_37 : decode cX2_lift 37 = .ok (.invokespecial 45, 3) := by decide +kernel
theorem dX2_lift_40 : decode cX2_lift 40 = .ok (.athrow, 1) := by decide +kernel
theorem dX2_lift_41 : decode cX2_lift 41 = .ok (.aload_n 0, 1) := by decide +kernel
theorem dX2_lift_42 : decode cX2_lift 42 = .ok (.iconst 2, 1) := by decide +kernel
theorem dX2_lift_43 : decode cX2_lift 43 = .ok (.iload_n 1, 1) := by decide +kernel
theorem dX2_lift_44 : decode cX2_lift 44 = .ok (.imul, 1) := by decide +kernel
theorem dX2_lift_45 : decode cX2_lift 45 = .ok (.iconst 1, 1) := by decide +kernel
theorem dX2_lift_46 : decode cX2_lift 46 = .ok (.iadd, 1) := by decide +kernel
theorem dX2_lift_47 : decode cX2_lift 47 = .ok (.iconst 2, 1) := by decide +kernel
theorem dX2_lift_48 : decode cX2_lift 48 = .ok (.iload_n 2, 1) := by decide +kernel
theorem dX2_lift_49 : decode cX2_lift 49 = .ok (.imul, 1) := by decide +kernel
theorem dX2_lift_50 : decode cX2_lift 50 = .ok (.iconst 1, 1) := by decide +kernel
theorem dX2_lift_51 : decode cX2_lift 51 = .ok (.iadd, 1) := by decide +kernel
theorem dX2_lift_52 : decode cX2_lift 52 = .ok (.iload_n 3, 1) := by decide +kernel
theorem dX2_lift_53 : decode cX2_lift 53 = .ok (.invokevirtual 80, 3) := by decide +kernel
theorem dX2_lift_56 : decode cX2_lift 56 = .ok (.ireturn, 1) := by decide +kernel
set_option maxRecDepth 20000 in
theorem ggX2_turn_X2_needZeroOrOne : GoodIn wsX2_turn wsX2_needZeroOrOne := goodIn_ca (goodIn_r _ [8, 1, 2] (by decide +kernel) (by decide +kernel)) (goodIn_sub (fun _ h => List.mem_cons_of_mem _ (List.mem_append_right _ h)) (by decide +kernel))
set_option maxRecDepth 20000 in
theorem gX2_turn_X2_needZeroOrOne : GoodIn wsX2_turn (va_wsS RX2 70 yX2_needZeroOrOne wsX2_needZeroOrOne) := goodIn_app (goodIn_of _ (by decide +kernel)) ggX2_turn_X2_needZeroOrOne
set_option maxRecDepth 20000 in
theorem ggX2_turn_X1_barredAmong : GoodIn wsX2_turn wsX1_barredAmong := goodIn_r _ [12, 13, 26, 27, 28, 29, 30, 31, 32, 33, 34, 35, 36, 37, 38, 39] (by decide +kernel) (by decide +kernel)
set_option maxRecDepth 20000 in
theorem gX2_turn_X1_barredAmong_n95 : GoodIn wsX2_turn (wsX1_barredAmong) := ggX2_turn_X1_barredAmong
theorem dX2_turn_0 : decode cX2_turn 0 = .ok (.iload_n 1, 1) := by decide +kernel
theorem dX2_turn_1 : decode cX2_turn 1 = .ok (.ifCond .lt 16, 3) := by decide +kernel
theorem dX2_turn_4 : decode cX2_turn 4 = .ok (.iload_n 1, 1) := by decide +kernel
theorem dX2_turn_5 : decode cX2_turn 5 = .ok (.aload_n 0, 1) := by decide +kernel
theorem dX2_turn_6 : decode cX2_turn 6 = .ok (.getfield 12, 3) := by decide +kernel
theorem dX2_turn_9 : decode cX2_turn 9 = .ok (.getfield 86, 3) := by decide +kernel
theorem dX2_turn_12 : decode cX2_turn 12 = .ok (.iconst 2, 1) := by decide +kernel
theorem dX2_turn_13 : decode cX2_turn 13 = .ok (.idiv, 1) := by decide +kernel
theorem dX2_turn_14 : decode cX2_turn 14 = .ok (.if_icmp .lt 13, 3) := by decide +kernel
theorem dX2_turn_17 : decode cX2_turn 17 = .ok (.new 41, 3) := by decide +kernel
theorem dX2_turn_20 : decode cX2_turn 20 = .ok (.dup, 1) := by decide +kernel
theorem dX2_turn_21 : decode cX2_turn 21 = .ok (.ldc 89, 2) := by decide +kernel
theorem dX2_turn_23 : decode cX2_turn 23 = .ok (.invokespecial 45, 3) := by decide +kernel
theorem dX2_turn_26 : decode cX2_turn 26 = .ok (.athrow, 1) := by decide +kernel
theorem dX2_turn_27 : decode cX2_turn 27 = .ok (.iload_n 2, 1) := by decide +kernel
theorem dX2_turn_28 : decode cX2_turn 28 = .ok (.invokestatic 70, 3) := by decide +kernel
theorem dX2_turn_31 : decode cX2_turn 31 = .ok (.aload_n 0, 1) := by decide +kernel
theorem dX2_turn_32 : decode cX2_turn 32 = .ok (.dup, 1) := by decide +kernel
theorem dX2_turn_33 : decode cX2_turn 33 = .ok (.getfield 59, 3) := by decide +kernel
theorem dX2_turn_36 : decode cX2_turn 36 = .ok (.iconst 1, 1) := by decide +kernel
theorem dX2_turn_37 : decode cX2_turn 37 = .ok (.iadd, 1) := by decide +kernel
theorem dX2_turn_38 : decode cX2_turn 38 = .ok (.putfield 59, 3) := by decide +kernel
theorem dX2_turn_41 : decode cX2_turn 41 = .ok (.aload_n 0, 1) := by decide +kernel
theorem dX2_turn_42 : decode cX2_turn 42 = .ok (.getfield 12, 3) := by decide +kernel
theorem dX2_turn_45 : decode cX2_turn 45 = .ok (.getfield 91, 3) := by decide +kernel
theorem dX2_turn_48 : decode cX2_turn 48 = .ok (.iconst 2, 1) := by decide +kernel
theorem dX2_turn_49 : decode cX2_turn 49 = .ok (.iload_n 1, 1) := by decide +kernel
theorem dX2_turn_50 : decode cX2_turn 50 = .ok (.imul, 1) := by decide +kernel
theorem dX2_turn_51 : decode cX2_turn 51 = .ok (.iload_n 2, 1) := by decide +kernel
theorem dX2_turn_52 : decode cX2_turn 52 = .ok (.iadd, 1) := by decide +kernel
theorem dX2_turn_53 : decode cX2_turn 53 = .ok (.iload_n 3, 1) := by decide +kernel
theorem dX2_turn_54 : decode cX2_turn 54 = .ok (.bastore, 1) := by decide +kernel
theorem dX2_turn_55 : decode cX2_turn 55 = .ok (.aload_n 0, 1) := by decide +kernel
theorem dX2_turn_56 : decode cX2_turn 56 = .ok (.getfield 12, 3) := by decide +kernel
theorem dX2_turn_59 : decode cX2_turn 59 = .ok (.iconst 2, 1) := by decide +kernel
theorem dX2_turn_60 : decode cX2_turn 60 = .ok (.iload_n 1, 1) := by decide +kernel
theorem dX2_turn_61 : decode cX2_turn 61 = .ok (.imul, 1) := by decide +kernel
theorem dX2_turn_62 : decode cX2_turn 62 = .ok (.iconst 2, 1) := by decide +kernel
theorem dX2_turn_63 : decode cX2_turn 63 = .ok (.iload_n 1, 1) := by decide +kernel
theorem dX2_turn_64 : decode cX2_turn 64 = .ok (.imul, 1) := by decide +kernel
theorem dX2_turn_65 : decode cX2_turn 65 = .ok (.iconst 2, 1) := by decide +kernel
theorem dX2_turn_66 : decode cX2_turn 66 = .ok (.iadd, 1) := by decide +kernel
theorem dX2_turn_67 : decode cX2_turn 67 = .ok (.invokevirtual 95, 3) := by decide +kernel
theorem dX2_turn_70 : decode cX2_turn 70 = .ok (.ireturn, 1) := by decide +kernel
set_option maxRecDepth 20000 in
theorem ggX2_width_X2_needPiece : GoodIn wsX2_width wsX2_needPiece := goodIn_ca (goodIn_r _ [7, 8, 9, 2, 13, 14, 15, 16, 17, 18, 19, 20, 21, 22, 23, 24, 25, 26, 27, 28, 29, 30, 31, 32, 33, 34, 35, 36, 37, 38] (by decide +kernel) (by decide +kernel)) (goodIn_sub (fun _ h => List.mem_cons_of_mem _ (List.mem_append_right _ h)) (by decide +kernel))
set_option maxRecDepth 20000 in
theorem gX2_width_X2_needPiece : GoodIn wsX2_width (wsV RX2 66 RX2 yX2_needPiece wsX2_needPiece) := goodIn_app (goodIn_of _ (by decide +kernel)) ggX2_width_X2_needPiece
set_option maxRecDepth 20000 in
theorem ggX2_width_X2_needWidth : GoodIn wsX2_width wsX2_needWidth := goodIn_ca (goodIn_r _ [12, 8, 9] (by decide +kernel) (by decide +kernel)) (goodIn_sub (fun _ h => List.mem_cons_of_mem _ (List.mem_append_right _ h)) (by decide +kernel))
set_option maxRecDepth 20000 in
theorem gX2_width_X2_needWidth : GoodIn wsX2_width (va_wsS RX2 99 yX2_needWidth wsX2_needWidth) := goodIn_app (goodIn_of _ (by decide +kernel)) ggX2_width_X2_needWidth
theorem dX2_width_0 : decode cX2_width 0 = .ok (.aload_n 0, 1) := by decide +kernel
theorem dX2_width_1 : decode cX2_width 1 = .ok (.iload_n 1, 1) := by decide +kernel
theorem dX2_width_2 : decode cX2_width 2 = .ok (.invokevirtual 66, 3) := by decide +kernel
theorem dX2_width_5 : decode cX2_width 5 = .ok (.iload_n 2, 1) := by decide +kernel
theorem dX2_width_6 : decode cX2_width 6 = .ok (.invokestatic 99, 3) := by decide +kernel
theorem dX2_width_9 : decode cX2_width 9 = .ok (.aload_n 0, 1) := by decide +kernel
theorem dX2_width_10 : decode cX2_width 10 = .ok (.dup, 1) := by decide +kernel
theorem dX2_width_11 : decode cX2_width 11 = .ok (.getfield 59, 3) := by decide +kernel
theorem dX2_width_14 : decode cX2_width 14 = .ok (.iconst 1, 1) := by decide +kernel
theorem dX2_width_15 : decode cX2_width 15 = .ok (.iadd, 1) := by decide +kernel
theorem dX2_width_16 : decode cX2_width 16 = .ok (.putfield 59, 3) := by decide +kernel
theorem dX2_width_19 : decode cX2_width 19 = .ok (.aload_n 0, 1) := by decide +kernel
theorem dX2_width_20 : decode cX2_width 20 = .ok (.getfield 12, 3) := by decide +kernel
theorem dX2_width_23 : decode cX2_width 23 = .ok (.getfield 102, 3) := by decide +kernel
theorem dX2_width_26 : decode cX2_width 26 = .ok (.iload_n 1, 1) := by decide +kernel
theorem dX2_width_27 : decode cX2_width 27 = .ok (.iload_n 2, 1) := by decide +kernel
theorem dX2_width_28 : decode cX2_width 28 = .ok (.iastore, 1) := by decide +kernel
theorem dX2_width_29 : decode cX2_width 29 = .ok (.return_, 1) := by decide +kernel
set_option maxRecDepth 20000 in
theorem ggX2_zone_X2_needPiece : GoodIn wsX2_zone wsX2_needPiece := goodIn_ca (goodIn_r _ [7, 8, 9, 2, 25, 26, 27, 28, 29, 30, 31, 32, 33, 34, 35, 36, 37, 38, 39, 40, 41, 42, 43, 44, 45, 46, 47, 48, 49, 50] (by decide +kernel) (by decide +kernel)) (goodIn_sub (fun _ h => List.mem_cons_of_mem _ (List.mem_append_right _ h)) (by decide +kernel))
set_option maxRecDepth 20000 in
theorem gX2_zone_X2_needPiece : GoodIn wsX2_zone (wsV RX2 66 RX2 yX2_needPiece wsX2_needPiece) := goodIn_app (goodIn_of _ (by decide +kernel)) ggX2_zone_X2_needPiece
set_option maxRecDepth 20000 in
theorem ggX2_zone_X2_needHour : GoodIn wsX2_zone wsX2_needHour := goodIn_ca (goodIn_r _ [12, 8, 9] (by decide +kernel) (by decide +kernel)) (goodIn_sub (fun _ h => List.mem_cons_of_mem _ (List.mem_append_right _ h)) (by decide +kernel))
set_option maxRecDepth 20000 in
theorem gX2_zone_X2_needHour : GoodIn wsX2_zone (va_wsS RX2 105 yX2_needHour wsX2_needHour) := goodIn_app (goodIn_of _ (by decide +kernel)) ggX2_zone_X2_needHour
set_option maxRecDepth 20000 in
theorem ggX2_zone_X1_setZone : GoodIn wsX2_zone wsX1_setZone := goodIn_r _ [16, 17, 18, 19, 20, 21, 22, 23, 24, 37, 38, 39, 40, 41, 42, 43, 44, 45, 46, 47, 48, 49, 50] (by decide +kernel) (by decide +kernel)
set_option maxRecDepth 20000 in
theorem gX2_zone_X1_setZone_n108 : GoodIn wsX2_zone (wsX1_setZone) := ggX2_zone_X1_setZone
theorem dX2_zone_0 : decode cX2_zone 0 = .ok (.aload_n 0, 1) := by decide +kernel
theorem dX2_zone_1 : decode cX2_zone 1 = .ok (.iload_n 1, 1) := by decide +kernel
theorem dX2_zone_2 : decode cX2_zone 2 = .ok (.invokevirtual 66, 3) := by decide +kernel
theorem dX2_zone_5 : decode cX2_zone 5 = .ok (.iload_n 2, 1) := by decide +kernel
theorem dX2_zone_6 : decode cX2_zone 6 = .ok (.invokestatic 105, 3) := by decide +kernel
theorem dX2_zone_9 : decode cX2_zone 9 = .ok (.aload_n 0, 1) := by decide +kernel
theorem dX2_zone_10 : decode cX2_zone 10 = .ok (.dup, 1) := by decide +kernel
theorem dX2_zone_11 : decode cX2_zone 11 = .ok (.getfield 59, 3) := by decide +kernel
theorem dX2_zone_14 : decode cX2_zone 14 = .ok (.iconst 1, 1) := by decide +kernel
theorem dX2_zone_15 : decode cX2_zone 15 = .ok (.iadd, 1) := by decide +kernel
theorem dX2_zone_16 : decode cX2_zone 16 = .ok (.putfield 59, 3) := by decide +kernel
theorem dX2_zone_19 : decode cX2_zone 19 = .ok (.aload_n 0, 1) := by decide +kernel
theorem dX2_zone_20 : decode cX2_zone 20 = .ok (.getfield 12, 3) := by decide +kernel
theorem dX2_zone_23 : decode cX2_zone 23 = .ok (.iload_n 1, 1) := by decide +kernel
theorem dX2_zone_24 : decode cX2_zone 24 = .ok (.iload_n 2, 1) := by decide +kernel
theorem dX2_zone_25 : decode cX2_zone 25 = .ok (.iload_n 3, 1) := by decide +kernel
theorem dX2_zone_26 : decode cX2_zone 26 = .ok (.invokevirtual 108, 3) := by decide +kernel
theorem dX2_zone_29 : decode cX2_zone 29 = .ok (.ireturn, 1) := by decide +kernel
set_option maxRecDepth 20000 in
theorem ggX2_closed_X2_needPiece : GoodIn wsX2_closed wsX2_needPiece := goodIn_ca (goodIn_r _ [7, 8, 9, 2, 16, 17, 18, 19, 20, 21, 22, 23, 24, 25, 26, 27, 28, 29, 30, 31, 32, 33, 34, 35, 36, 37, 38, 39, 40, 41] (by decide +kernel) (by decide +kernel)) (goodIn_sub (fun _ h => List.mem_cons_of_mem _ (List.mem_append_right _ h)) (by decide +kernel))
set_option maxRecDepth 20000 in
theorem gX2_closed_X2_needPiece : GoodIn wsX2_closed (wsV RX2 66 RX2 yX2_needPiece wsX2_needPiece) := goodIn_app (goodIn_of _ (by decide +kernel)) ggX2_closed_X2_needPiece
set_option maxRecDepth 20000 in
theorem ggX2_closed_X1_shutPieces : GoodIn wsX2_closed wsX1_shutPieces := goodIn_r _ [13, 14, 15, 28, 29, 30, 31, 32, 33, 34, 35, 36, 37, 38, 39, 40, 41] (by decide +kernel) (by decide +kernel)
set_option maxRecDepth 20000 in
theorem gX2_closed_X1_shutPieces_n114 : GoodIn wsX2_closed (wsX1_shutPieces) := ggX2_closed_X1_shutPieces
theorem dX2_closed_0 : decode cX2_closed 0 = .ok (.aload_n 0, 1) := by decide +kernel
theorem dX2_closed_1 : decode cX2_closed 1 = .ok (.iload_n 1, 1) := by decide +kernel
theorem dX2_closed_2 : decode cX2_closed 2 = .ok (.invokevirtual 66, 3) := by decide +kernel
theorem dX2_closed_5 : decode cX2_closed 5 = .ok (.aload_n 0, 1) := by decide +kernel
theorem dX2_closed_6 : decode cX2_closed 6 = .ok (.dup, 1) := by decide +kernel
theorem dX2_closed_7 : decode cX2_closed 7 = .ok (.getfield 59, 3) := by decide +kernel
theorem dX2_closed_10 : decode cX2_closed 10 = .ok (.iconst 1, 1) := by decide +kernel
theorem dX2_closed_11 : decode cX2_closed 11 = .ok (.iadd, 1) := by decide +kernel
theorem dX2_closed_12 : decode cX2_closed 12 = .ok (.putfield 59, 3) := by decide +kernel
theorem dX2_closed_15 : decode cX2_closed 15 = .ok (.aload_n 0, 1) := by decide +kernel
theorem dX2_closed_16 : decode cX2_closed 16 = .ok (.getfield 12, 3) := by decide +kernel
theorem dX2_closed_19 : decode cX2_closed 19 = .ok (.getfield 111, 3) := by decide +kernel
theorem dX2_closed_22 : decode cX2_closed 22 = .ok (.iload_n 1, 1) := by decide +kernel
theorem dX2_closed_23 : decode cX2_closed 23 = .ok (.iload_n 2, 1) := by decide +kernel
theorem dX2_closed_24 : decode cX2_closed 24 = .ok (.bastore, 1) := by decide +kernel
theorem dX2_closed_25 : decode cX2_closed 25 = .ok (.aload_n 0, 1) := by decide +kernel
theorem dX2_closed_26 : decode cX2_closed 26 = .ok (.getfield 12, 3) := by decide +kernel
theorem dX2_closed_29 : decode cX2_closed 29 = .ok (.invokevirtual 114, 3) := by decide +kernel
theorem dX2_closed_32 : decode cX2_closed 32 = .ok (.ireturn, 1) := by decide +kernel
set_option maxRecDepth 20000 in
theorem ggX2_robot_X2_needWidth : GoodIn wsX2_robot wsX2_needWidth := goodIn_ca (goodIn_r _ [10, 11, 12] (by decide +kernel) (by decide +kernel)) (goodIn_sub (fun _ h => List.mem_cons_of_mem _ (List.mem_append_right _ h)) (by decide +kernel))
set_option maxRecDepth 20000 in
theorem gX2_robot_X2_needWidth : GoodIn wsX2_robot (va_wsS RX2 99 yX2_needWidth wsX2_needWidth) := goodIn_app (goodIn_of _ (by decide +kernel)) ggX2_robot_X2_needWidth
set_option maxRecDepth 20000 in
theorem ggX2_robot_X1_hasPieceFor : GoodIn wsX2_robot wsX1_hasPieceFor := goodIn_r _ [16, 17, 18, 31, 32, 33, 34, 35, 36, 37, 38, 39, 40, 41, 42, 43, 44] (by decide +kernel) (by decide +kernel)
set_option maxRecDepth 20000 in
theorem gX2_robot_X1_hasPieceFor_n123 : GoodIn wsX2_robot (wsX1_hasPieceFor) := ggX2_robot_X1_hasPieceFor
theorem dX2_robot_0 : decode cX2_robot 0 = .ok (.iload_n 1, 1) := by decide +kernel
theorem dX2_robot_1 : decode cX2_robot 1 = .ok (.invokestatic 99, 3) := by decide +kernel
theorem dX2_robot_4 : decode cX2_robot 4 = .ok (.aload_n 0, 1) := by decide +kernel
theorem dX2_robot_5 : decode cX2_robot 5 = .ok (.getfield 118, 3) := by decide +kernel
theorem dX2_robot_8 : decode cX2_robot 8 = .ok (.bipush 6, 2) := by decide +kernel
theorem dX2_robot_10 : decode cX2_robot 10 = .ok (.if_icmp .lt 13, 3) := by decide +kernel
theorem dX2_robot_13 : decode cX2_robot 13 = .ok (.new 54, 3) := by decide +kernel
theorem dX2_robot_16 : decode cX2_robot 16 = .ok (.dup, 1) := by decide +kernel
theorem dX2_robot_17 : decode cX2_robot 17 = .ok (.ldc 121, 2) := by decide +kernel
theorem dX2_robot_19 : decode cX2_robot 19 = .ok (.invokespecial 58, 3) := by decide +kernel
theorem dX2_robot_22 : decode cX2_robot 22 = .ok (.athrow, 1) := by decide +kernel
theorem dX2_robot_23 : decode cX2_robot 23 = .ok (.aload_n 0, 1) := by decide +kernel
theorem dX2_robot_24 : decode cX2_robot 24 = .ok (.getfield 12, 3) := by decide +kernel
theorem dX2_robot_27 : decode cX2_robot 27 = .ok (.iload_n 1, 1) := by decide +kernel
theorem dX2_robot_28 : decode cX2_robot 28 = .ok (.invokevirtual 123, 3) := by decide +kernel
theorem dX2_robot_31 : decode cX2_robot 31 = .ok (.ifCond .ne 5, 3) := by decide +kernel
theorem dX2_robot_34 : decode cX2_robot 34 = .ok (.iconst (-1), 1) := by decide +kernel
theorem dX2_robot_35 : decode cX2_robot 35 = .ok (.ireturn, 1) := by decide +kernel
theorem dX2_robot_36 : decode cX2_robot 36 = .ok (.aload_n 0, 1) := by decide +kernel
theorem dX2_robot_37 : decode cX2_robot 37 = .ok (.dup, 1) := by decide +kernel
theorem dX2_robot_38 : decode cX2_robot 38 = .ok (.getfield 59, 3) := by decide +kernel
theorem dX2_robot_41 : decode cX2_robot 41 = .ok (.iconst 1, 1) := by decide +kernel
theorem dX2_robot_42 : decode cX2_robot 42 = .ok (.iadd, 1) := by decide +kernel
theorem dX2_robot_43 : decode cX2_robot 43 = .ok (.putfield 59, 3) := by decide +kernel
theorem dX2_robot_46 : decode cX2_robot 46 = .ok (.aload_n 0, 1) := by decide +kernel
theorem dX2_robot_47 : decode cX2_robot 47 = .ok (.getfield 23, 3) := by decide +kernel
theorem dX2_robot_50 : decode cX2_robot 50 = .ok (.aload_n 0, 1) := by decide +kernel
theorem dX2_robot_51 : decode cX2_robot 51 = .ok (.getfield 118, 3) := by decide +kernel
theorem dX2_robot_54 : decode cX2_robot 54 = .ok (.iload_n 1, 1) := by decide +kernel
theorem dX2_robot_55 : decode cX2_robot 55 = .ok (.iastore, 1) := by decide +kernel
theorem dX2_robot_56 : decode cX2_robot 56 = .ok (.aload_n 0, 1) := by decide +kernel
theorem dX2_robot_57 : decode cX2_robot 57 = .ok (.dup, 1) := by decide +kernel
theorem dX2_robot_58 : decode cX2_robot 58 = .ok (.getfield 118, 3) := by decide +kernel
theorem dX2_robot_61 : decode cX2_robot 61 = .ok (.iconst 1, 1) := by decide +kernel
theorem dX2_robot_62 : decode cX2_robot 62 = .ok (.iadd, 1) := by decide +kernel
theorem dX2_robot_63 : decode cX2_robot 63 = .ok (.putfield 118, 3) := by decide +kernel
theorem dX2_robot_66 : decode cX2_robot 66 = .ok (.aload_n 0, 1) := by decide +kernel
theorem dX2_robot_67 : decode cX2_robot 67 = .ok (.getfield 118, 3) := by decide +kernel
theorem dX2_robot_70 : decode cX2_robot 70 = .ok (.iconst 1, 1) := by decide +kernel
theorem dX2_robot_71 : decode cX2_robot 71 = .ok (.isub, 1) := by decide +kernel
theorem dX2_robot_72 : decode cX2_robot 72 = .ok (.ireturn, 1) := by decide +kernel
set_option maxRecDepth 20000 in
theorem ggX2_way_X2_needJourney : GoodIn wsX2_way wsX2_needJourney := goodIn_ca (goodIn_r _ [10, 11, 12, 13, 14, 15, 16, 9, 17, 2, 18, 19, 20, 72, 73, 74, 75, 76, 77, 78, 79, 80, 81, 82, 83, 84, 85, 86, 87, 88, 89, 90, 91, 92, 93, 94, 95, 96, 97] (by decide +kernel) (by decide +kernel)) (goodIn_sub (fun _ h => List.mem_cons_of_mem _ (List.mem_append_right _ h)) (by decide +kernel))
set_option maxRecDepth 20000 in
theorem gX2_way_X2_needJourney : GoodIn wsX2_way (wsV RX2 127 RX2 yX2_needJourney wsX2_needJourney) := goodIn_app (goodIn_of _ (by decide +kernel)) ggX2_way_X2_needJourney
set_option maxRecDepth 20000 in
theorem ggX2_way_X0_begin : GoodIn wsX2_way wsX0_begin := goodIn_r _ [24, 25, 26, 27, 28, 29, 30, 31, 32, 33, 84, 85, 86, 87, 88, 89, 90, 91, 92, 93, 94, 95, 96, 97, 98, 99, 100] (by decide +kernel) (by decide +kernel)
set_option maxRecDepth 20000 in
theorem gX2_way_X0_begin_n131 : GoodIn wsX2_way (wsX0_begin) := ggX2_way_X0_begin
set_option maxRecDepth 20000 in
theorem ggX2_way_X0_spread : GoodIn wsX2_way wsX0_spread := goodIn_r _ [36, 37, 38, 39, 40, 41, 42, 43, 27, 44, 45, 33, 46, 47, 48, 22, 49, 50, 51, 52, 53, 54, 55, 56, 57, 25, 98, 99, 100, 84, 85, 86, 87, 88, 89, 90, 91, 92, 93, 94, 95, 96, 97] (by decide +kernel) (by decide +kernel)
set_option maxRecDepth 20000 in
theorem gX2_way_X0_spread_n135 : GoodIn wsX2_way (wsX0_spread) := ggX2_way_X0_spread
set_option maxRecDepth 20000 in
theorem ggX2_way_X0_trace : GoodIn wsX2_way wsX0_trace := goodIn_r _ [60, 61, 62, 63, 22, 64, 38, 54, 55, 56, 57, 37, 25, 65, 66, 67, 68, 50, 51, 52, 53, 84, 85, 86, 87, 88, 89, 90, 91, 92, 93, 94, 95, 96, 97, 98, 99, 100] (by decide +kernel) (by decide +kernel)
set_option maxRecDepth 20000 in
theorem gX2_way_X0_trace_n139 : GoodIn wsX2_way (wsX0_trace) := ggX2_way_X0_trace
set_option maxRecDepth 20000 in
theorem ggX2_way_X0_secondsTo : GoodIn wsX2_way wsX0_secondsTo := goodIn_r _ [71, 61, 62, 63, 22, 64, 38, 54, 55, 56, 57, 37, 25, 84, 85, 86, 87, 88, 89, 90, 91, 92, 93, 94, 95, 96, 97, 98, 99, 100] (by decide +kernel) (by decide +kernel)
set_option maxRecDepth 20000 in
theorem gX2_way_X0_secondsTo_n146 : GoodIn wsX2_way (wsX0_secondsTo) := ggX2_way_X0_secondsTo
theorem dX2_way_0 : decode cX2_way 0 = .ok (.aload_n 0, 1) := by decide +kernel
theorem dX2_way_1 : decode cX2_way 1 = .ok (.iload_n 1, 1) := by decide +kernel
theorem dX2_way_2 : decode cX2_way 2 = .ok (.iload_n 2, 1) := by decide +kernel
theorem dX2_way_3 : decode cX2_way 3 = .ok (.iload_n 3, 1) := by decide +kernel
theorem dX2_way_4 : decode cX2_way 4 = .ok (.iload 4, 2) := by decide +kernel
theorem dX2_way_6 : decode cX2_way 6 = .ok (.invokevirtual 127, 3) := by decide +kernel
theorem dX2_way_9 : decode cX2_way 9 = .ok (.aload_n 0, 1) := by decide +kernel
theorem dX2_way_10 : decode cX2_way 10 = .ok (.getfield 19, 3) := by decide +kernel
theorem dX2_way_13 : decode cX2_way 13 = .ok (.aload_n 0, 1) := by decide +kernel
theorem dX2_way_14 : decode cX2_way 14 = .ok (.getfield 12, 3) := by decide +kernel
theorem dX2_way_17 : decode cX2_way 17 = .ok (.aload_n 0, 1) := by decide +kernel
theorem dX2_way_18 : decode cX2_way 18 = .ok (.getfield 23, 3) := by decide +kernel
theorem dX2_way_21 : decode cX2_way 21 = .ok (.iload_n 1, 1) := by decide +kernel
theorem dX2_way_22 : decode cX2_way 22 = .ok (.iaload, 1) := by decide +kernel
theorem dX2_way_23 : decode cX2_way 23 = .ok (.iload 4, 2) := by decide +kernel
theorem dX2_way_25 : decode cX2_way 25 = .ok (.invokevirtual 131, 3) := by decide +kernel
theorem dX2_way_28 : decode cX2_way 28 = .ok (.aload_n 0, 1) := by decide +kernel
theorem dX2_way_29 : decode cX2_way 29 = .ok (.getfield 19, 3) := by decide +kernel
theorem dX2_way_32 : decode cX2_way 32 = .ok (.aload_n 0, 1) := by decide +kernel
theorem dX2_way_33 : decode cX2_way 33 = .ok (.getfield 12, 3) := by decide +kernel
theorem dX2_way_36 : decode cX2_way 36 = .ok (.iload_n 2, 1) := by decide +kernel
theorem dX2_way_37 : decode cX2_way 37 = .ok (.invokevirtual 135, 3) := by decide +kernel
theorem dX2_way_40 : decode cX2_way 40 = .ok (.aload_n 0, 1) := by decide +kernel
theorem dX2_way_41 : decode cX2_way 41 = .ok (.aload_n 0, 1) := by decide +kernel
theorem dX2_way_42 : decode cX2_way 42 = .ok (.getfield 19, 3) := by decide +kernel
theorem dX2_way_45 : decode cX2_way 45 = .ok (.aload_n 0, 1) := by decide +kernel
theorem dX2_way_46 : decode cX2_way 46 = .ok (.getfield 12, 3) := by decide +kernel
theorem dX2_way_49 : decode cX2_way 49 = .ok (.iload_n 2, 1) := by decide +kernel
theorem dX2_way_50 : decode cX2_way 50 = .ok (.iload_n 3, 1) := by decide +kernel
theorem dX2_way_51 : decode cX2_way 51 = .ok (.aload_n 0, 1) := by decide +kernel
theorem dX2_way_52 : decode cX2_way 52 = .ok (.getfield 30, 3) := by decide +kernel
theorem dX2_way_55 : decode cX2_way 55 = .ok (.invokevirtual 139, 3) := by decide +kernel
theorem dX2_way_58 : decode cX2_way 58 = .ok (.putfield 143, 3) := by decide +kernel
theorem dX2_way_61 : decode cX2_way 61 = .ok (.aload_n 0, 1) := by decide +kernel
theorem dX2_way_62 : decode cX2_way 62 = .ok (.getfield 19, 3) := by decide +kernel
theorem dX2_way_65 : decode cX2_way 65 = .ok (.aload_n 0, 1) := by decide +kernel
theorem dX2_way_66 : decode cX2_way 66 = .ok (.getfield 12, 3) := by decide +kernel
theorem dX2_way_69 : decode cX2_way 69 = .ok (.iload_n 2, 1) := by decide +kernel
theorem dX2_way_70 : decode cX2_way 70 = .ok (.iload_n 3, 1) := by decide +kernel
theorem dX2_way_71 : decode cX2_way 71 = .ok (.invokevirtual 146, 3) := by decide +kernel
theorem dX2_way_74 : decode cX2_way 74 = .ok (.ireturn, 1) := by decide +kernel
theorem dX2_step_0 : decode cX2_step 0 = .ok (.iload_n 1, 1) := by decide +kernel
theorem dX2_step_1 : decode cX2_step 1 = .ok (.ifCond .lt 11, 3) := by decide +kernel
theorem dX2_step_4 : decode cX2_step 4 = .ok (.iload_n 1, 1) := by decide +kernel
theorem dX2_step_5 : decode cX2_step 5 = .ok (.aload_n 0, 1) := by decide +kernel
theorem dX2_step_6 : decode cX2_step 6 = .ok (.getfield 143, 3) := by decide +kernel
theorem dX2_step_9 : decode cX2_step 9 = .ok (.if_icmp .lt 5, 3) := by decide +kernel
theorem dX2_step_12 : decode cX2_step 12 = .ok (.iconst (-1), 1) := by decide +kernel
theorem dX2_step_13 : decode cX2_step 13 = .ok (.ireturn, 1) := by decide +kernel
theorem dX2_step_14 : decode cX2_step 14 = .ok (.aload_n 0, 1) := by decide +kernel
theorem dX2_step_15 : decode cX2_step 15 = .ok (.getfield 30, 3) := by decide +kernel
theorem dX2_step_18 : decode cX2_step 18 = .ok (.aload_n 0, 1) := by decide +kernel
theorem dX2_step_19 : decode cX2_step 19 = .ok (.getfield 143, 3) := by decide +kernel
theorem dX2_step_22 : decode cX2_step 22 = .ok (.iconst 1, 1) := by decide +kernel
theorem dX2_step_23 : decode cX2_step 23 = .ok (.isub, 1) := by decide +kernel
theorem dX2_step_24 : decode cX2_step 24 = .ok (.iload_n 1, 1) := by decide +kernel
theorem dX2_step_25 : decode cX2_step 25 = .ok (.isub, 1) := by decide +kernel
theorem dX2_step_26 : decode cX2_step 26 = .ok (.iaload, 1) := by decide +kernel
theorem dX2_step_27 : decode cX2_step 27 = .ok (.ireturn, 1) := by decide +kernel
set_option maxRecDepth 20000 in
theorem ggX2_same_X2_needJourney : GoodIn wsX2_same wsX2_needJourney := goodIn_ca (goodIn_r _ [8, 9, 10, 11, 12, 13, 14, 7, 15, 2, 16, 17, 18, 63, 64, 65, 66, 67, 68, 69, 70, 71, 72, 73, 74, 75, 76, 77, 78, 79, 80, 81, 82, 83, 84, 85, 86, 87, 88] (by decide +kernel) (by decide +kernel)) (goodIn_sub (fun _ h => List.mem_cons_of_mem _ (List.mem_append_right _ h)) (by decide +kernel))
set_option maxRecDepth 20000 in
theorem gX2_same_X2_needJourney : GoodIn wsX2_same (wsV RX2 127 RX2 yX2_needJourney wsX2_needJourney) := goodIn_app (goodIn_of _ (by decide +kernel)) ggX2_same_X2_needJourney
set_option maxRecDepth 20000 in
theorem ggX2_same_X0_begin : GoodIn wsX2_same wsX0_begin := goodIn_r _ [22, 23, 24, 25, 26, 27, 28, 29, 30, 31, 75, 76, 77, 78, 79, 80, 81, 82, 83, 84, 85, 86, 87, 88, 89, 90, 91] (by decide +kernel) (by decide +kernel)
set_option maxRecDepth 20000 in
theorem gX2_same_X0_begin_n131 : GoodIn wsX2_same (wsX0_begin) := ggX2_same_X0_begin
set_option maxRecDepth 20000 in
theorem ggX2_same_X0_spread : GoodIn wsX2_same wsX0_spread := goodIn_r _ [34, 35, 36, 37, 38, 39, 40, 41, 25, 42, 43, 31, 44, 45, 46, 20, 47, 48, 49, 50, 51, 52, 53, 54, 55, 23, 89, 90, 91, 75, 76, 77, 78, 79, 80, 81, 82, 83, 84, 85, 86, 87, 88] (by decide +kernel) (by decide +kernel)
set_option maxRecDepth 20000 in
theorem gX2_same_X0_spread_n135 : GoodIn wsX2_same (wsX0_spread) := ggX2_same_X0_spread
set_option maxRecDepth 20000 in
theorem ggX2_same_X0_secondsTo : GoodIn wsX2_same wsX0_secondsTo := goodIn_r _ [58, 59, 60, 61, 20, 62, 36, 52, 53, 54, 55, 35, 23, 75, 76, 77, 78, 79, 80, 81, 82, 83, 84, 85, 86, 87, 88, 89, 90, 91] (by decide +kernel) (by decide +kernel)
set_option maxRecDepth 20000 in
theorem gX2_same_X0_secondsTo_n146 : GoodIn wsX2_same (wsX0_secondsTo) := ggX2_same_X0_secondsTo
theorem dX2_same_0 : decode cX2_same 0 = .ok (.aload_n 0, 1) := by decide +kernel
theorem dX2_same_1 : decode cX2_same 1 = .ok (.iload_n 1, 1) := by decide +kernel
theorem dX2_same_2 : decode cX2_same 2 = .ok (.iload_n 2, 1) := by decide +kernel
theorem dX2_same_3 : decode cX2_same 3 = .ok (.iload_n 3, 1) := by decide +kernel
theorem dX2_same_4 : decode cX2_same 4 = .ok (.iload 4, 2) := by decide +kernel
theorem dX2_same_6 : decode cX2_same 6 = .ok (.invokevirtual 127, 3) := by decide +kernel
theorem dX2_same_9 : decode cX2_same 9 = .ok (.aload_n 0, 1) := by decide +kernel
theorem dX2_same_10 : decode cX2_same 10 = .ok (.getfield 19, 3) := by decide +kernel
theorem dX2_same_13 : decode cX2_same 13 = .ok (.aload_n 0, 1) := by decide +kernel
theorem dX2_same_14 : decode cX2_same 14 = .ok (.getfield 12, 3) := by decide +kernel
theorem dX2_same_17 : decode cX2_same 17 = .ok (.aload_n 0, 1) := by decide +kernel
theorem dX2_same_18 : decode cX2_same 18 = .ok (.getfield 23, 3) := by decide +kernel
theorem dX2_same_21 : decode cX2_same 21 = .ok (.iload_n 1, 1) := by decide +kernel
theorem dX2_same_22 : decode cX2_same 22 = .ok (.iaload, 1) := by decide +kernel
theorem dX2_same_23 : decode cX2_same 23 = .ok (.iload 4, 2) := by decide +kernel
theorem dX2_same_25 : decode cX2_same 25 = .ok (.invokevirtual 131, 3) := by decide +kernel
theorem dX2_same_28 : decode cX2_same 28 = .ok (.aload_n 0, 1) := by decide +kernel
theorem dX2_same_29 : decode cX2_same 29 = .ok (.getfield 19, 3) := by decide +kernel
theorem dX2_same_32 : decode cX2_same 32 = .ok (.aload_n 0, 1) := by decide +kernel
theorem dX2_same_33 : decode cX2_same 33 = .ok (.getfield 12, 3) := by decide +kernel
theorem dX2_same_36 : decode cX2_same 36 = .ok (.iload_n 2, 1) := by decide +kernel
theorem dX2_same_37 : decode cX2_same 37 = .ok (.invokevirtual 135, 3) := by decide +kernel
theorem dX2_same_40 : decode cX2_same 40 = .ok (.aload_n 0, 1) := by decide +kernel
theorem dX2_same_41 : decode cX2_same 41 = .ok (.getfield 19, 3) := by decide +kernel
theorem dX2_same_44 : decode cX2_same 44 = .ok (.aload_n 0, 1) := by decide +kernel
theorem dX2_same_45 : decode cX2_same 45 = .ok (.getfield 12, 3) := by decide +kernel
theorem dX2_same_48 : decode cX2_same 48 = .ok (.iload_n 2, 1) := by decide +kernel
theorem dX2_same_49 : decode cX2_same 49 = .ok (.iload_n 3, 1) := by decide +kernel
theorem dX2_same_50 : decode cX2_same 50 = .ok (.invokevirtual 146, 3) := by decide +kernel
theorem dX2_same_53 : decode cX2_same 53 = .ok (.istore 5, 2) := by decide +kernel
theorem dX2_same_55 : decode cX2_same 55 = .ok (.aload_n 0, 1) := by decide +kernel
theorem dX2_same_56 : decode cX2_same 56 = .ok (.getfield 19, 3) := by decide +kernel
theorem dX2_same_59 : decode cX2_same 59 = .ok (.aload_n 0, 1) := by decide +kernel
theorem dX2_same_60 : decode cX2_same 60 = .ok (.getfield 12, 3) := by decide +kernel
theorem dX2_same_63 : decode cX2_same 63 = .ok (.iload_n 3, 1) := by decide +kernel
theorem dX2_same_64 : decode cX2_same 64 = .ok (.invokevirtual 135, 3) := by decide +kernel
theorem dX2_same_67 : decode cX2_same 67 = .ok (.aload_n 0, 1) := by decide +kernel
theorem dX2_same_68 : decode cX2_same 68 = .ok (.getfield 19, 3) := by decide +kernel
theorem dX2_same_71 : decode cX2_same 71 = .ok (.aload_n 0, 1) := by decide +kernel
theorem dX2_same_72 : decode cX2_same 72 = .ok (.getfield 12, 3) := by decide +kernel
theorem dX2_same_75 : decode cX2_same 75 = .ok (.iload_n 3, 1) := by decide +kernel
theorem dX2_same_76 : decode cX2_same 76 = .ok (.iload_n 2, 1) := by decide +kernel
theorem dX2_same_77 : decode cX2_same 77 = .ok (.invokevirtual 146, 3) := by decide +kernel
theorem dX2_same_80 : decode cX2_same 80 = .ok (.istore 6, 2) := by decide +kernel
theorem dX2_same_82 : decode cX2_same 82 = .ok (.iload 5, 2) := by decide +kernel
theorem dX2_same_84 : decode cX2_same 84 = .ok (.iload 6, 2) := by decide +kernel
theorem dX2_same_86 : decode cX2_same 86 = .ok (.if_icmp .ne 7, 3) := by decide +kernel
theorem dX2_same_89 : decode cX2_same 89 = .ok (.iconst 1, 1) := by decide +kernel
theorem dX2_same_90 : decode cX2_same 90 = .ok (.goto 4, 3) := by decide +kernel
theorem dX2_same_93 : decode cX2_same 93 = .ok (.iconst 0, 1) := by decide +kernel
theorem dX2_same_94 : decode cX2_same 94 = .ok (.ireturn, 1) := by decide +kernel
set_option maxRecDepth 20000 in
theorem ggX2_charger_X2_needPiece : GoodIn wsX2_charger wsX2_needPiece := goodIn_ca (goodIn_r _ [12, 13, 14, 15, 20, 21, 22, 23, 24, 25, 26, 27, 28, 29, 30, 31, 32, 33, 34, 35, 36, 37, 38, 39, 40, 41, 42, 43, 44, 45] (by decide +kernel) (by decide +kernel)) (goodIn_sub (fun _ h => List.mem_cons_of_mem _ (List.mem_append_right _ h)) (by decide +kernel))
set_option maxRecDepth 20000 in
theorem gX2_charger_X2_needPiece : GoodIn wsX2_charger (wsV RX2 66 RX2 yX2_needPiece wsX2_needPiece) := goodIn_app (goodIn_of _ (by decide +kernel)) ggX2_charger_X2_needPiece
set_option maxRecDepth 20000 in
theorem ggX2_charger_X2_hasCharger : GoodIn wsX2_charger wsX2_hasCharger := goodIn_r _ [19, 5, 7, 20, 21, 22, 23, 24, 25, 26, 27, 28, 29, 30, 31] (by decide +kernel) (by decide +kernel)
set_option maxRecDepth 20000 in
theorem gX2_charger_X2_hasCharger : GoodIn wsX2_charger (wsV RX2 150 RX2 yX2_hasCharger wsX2_hasCharger) := goodIn_app (goodIn_of _ (by decide +kernel)) ggX2_charger_X2_hasCharger
theorem dX2_charger_0 : decode cX2_charger 0 = .ok (.aload_n 0, 1) := by decide +kernel
theorem dX2_charger_1 : decode cX2_charger 1 = .ok (.iload_n 1, 1) := by decide +kernel
theorem dX2_charger_2 : decode cX2_charger 2 = .ok (.invokevirtual 66, 3) := by decide +kernel
theorem dX2_charger_5 : decode cX2_charger 5 = .ok (.aload_n 0, 1) := by decide +kernel
theorem dX2_charger_6 : decode cX2_charger 6 = .ok (.iload_n 1, 1) := by decide +kernel
theorem dX2_charger_7 : decode cX2_charger 7 = .ok (.invokevirtual 150, 3) := by decide +kernel
theorem dX2_charger_10 : decode cX2_charger 10 = .ok (.ifCond .eq 13, 3) := by decide +kernel
theorem dX2_charger_13 : decode cX2_charger 13 = .ok (.new 153, 3) := by decide +kernel
theorem dX2_charger_16 : decode cX2_charger 16 = .ok (.dup, 1) := by decide +kernel
theorem dX2_charger_17 : decode cX2_charger 17 = .ok (.ldc 155, 2) := by decide +kernel
theorem dX2_charger_19 : decode cX2_charger 19 = .ok (.invokespecial 157, 3) := by decide +kernel
theorem dX2_charger_22 : decode cX2_charger 22 = .ok (.athrow, 1) := by decide +kernel
theorem dX2_charger_23 : decode cX2_charger 23 = .ok (.aload_n 0, 1) := by decide +kernel
theorem dX2_charger_24 : decode cX2_charger 24 = .ok (.getfield 158, 3) := by decide +kernel
theorem dX2_charger_27 : decode cX2_charger 27 = .ok (.bipush 8, 2) := by decide +kernel
theorem dX2_charger_29 : decode cX2_charger 29 = .ok (.if_icmp .lt 13, 3) := by decide +kernel
theorem dX2_charger_32 : decode cX2_charger 32 = .ok (.new 54, 3) := by decide +kernel
theorem dX2_charger_35 : decode cX2_charger 35 = .ok (.dup, 1) := by decide +kernel
theorem dX2_charger_36 : decode cX2_charger 36 = .ok (.ldc 161, 2) := by decide +kernel
theorem dX2_charger_38 : decode cX2_charger 38 = .ok (.invokespecial 58, 3) := by decide +kernel
theorem dX2_charger_41 : decode cX2_charger 41 = .ok (.athrow, 1) := by decide +kernel
theorem dX2_charger_42 : decode cX2_charger 42 = .ok (.aload_n 0, 1) := by decide +kernel
theorem dX2_charger_43 : decode cX2_charger 43 = .ok (.dup, 1) := by decide +kernel
theorem dX2_charger_44 : decode cX2_charger 44 = .ok (.getfield 59, 3) := by decide +kernel
theorem dX2_charger_47 : decode cX2_charger 47 = .ok (.iconst 1, 1) := by decide +kernel
theorem dX2_charger_48 : decode cX2_charger 48 = .ok (.iadd, 1) := by decide +kernel
theorem dX2_charger_49 : decode cX2_charger 49 = .ok (.putfield 59, 3) := by decide +kernel
theorem dX2_charger_52 : decode cX2_charger 52 = .ok (.aload_n 0, 1) := by decide +kernel
theorem dX2_charger_53 : decode cX2_charger 53 = .ok (.getfield 27, 3) := by decide +kernel
theorem dX2_charger_56 : decode cX2_charger 56 = .ok (.aload_n 0, 1) := by decide +kernel
theorem dX2_charger_57 : decode cX2_charger 57 = .ok (.getfield 158, 3) := by decide +kernel
theorem dX2_charger_60 : decode cX2_charger 60 = .ok (.iload_n 1, 1) := by decide +kernel
theorem dX2_charger_61 : decode cX2_charger 61 = .ok (.iastore, 1) := by decide +kernel
theorem dX2_charger_62 : decode cX2_charger 62 = .ok (.aload_n 0, 1) := by decide +kernel
theorem dX2_charger_63 : decode cX2_charger 63 = .ok (.dup, 1) := by decide +kernel
theorem dX2_charger_64 : decode cX2_charger 64 = .ok (.getfield 158, 3) := by decide +kernel
theorem dX2_charger_67 : decode cX2_charger 67 = .ok (.iconst 1, 1) := by decide +kernel
theorem dX2_charger_68 : decode cX2_charger 68 = .ok (.iadd, 1) := by decide +kernel
theorem dX2_charger_69 : decode cX2_charger 69 = .ok (.putfield 158, 3) := by decide +kernel
theorem dX2_charger_72 : decode cX2_charger 72 = .ok (.aload_n 0, 1) := by decide +kernel
theorem dX2_charger_73 : decode cX2_charger 73 = .ok (.getfield 158, 3) := by decide +kernel
theorem dX2_charger_76 : decode cX2_charger 76 = .ok (.ireturn, 1) := by decide +kernel
set_option maxRecDepth 20000 in
theorem ggX2_nearest_X2_needJourney : GoodIn wsX2_nearest wsX2_needJourney := goodIn_ca (goodIn_r _ [9, 10, 11, 12, 13, 14, 15, 8, 16, 2, 17, 18, 19, 70, 71, 72, 73, 74, 75, 76, 77, 78, 79, 80, 81, 82, 83, 84, 85, 86, 87, 88, 89, 90, 91, 92, 93, 94, 95] (by decide +kernel) (by decide +kernel)) (goodIn_sub (fun _ h => List.mem_cons_of_mem _ (List.mem_append_right _ h)) (by decide +kernel))
set_option maxRecDepth 20000 in
theorem gX2_nearest_X2_needJourney : GoodIn wsX2_nearest (wsV RX2 127 RX2 yX2_needJourney wsX2_needJourney) := goodIn_app (goodIn_of _ (by decide +kernel)) ggX2_nearest_X2_needJourney
set_option maxRecDepth 20000 in
theorem ggX2_nearest_X0_begin : GoodIn wsX2_nearest wsX0_begin := goodIn_r _ [23, 24, 25, 26, 27, 28, 29, 30, 31, 32, 82, 83, 84, 85, 86, 87, 88, 89, 90, 91, 92, 93, 94, 95, 96, 97, 98] (by decide +kernel) (by decide +kernel)
set_option maxRecDepth 20000 in
theorem gX2_nearest_X0_begin_n131 : GoodIn wsX2_nearest (wsX0_begin) := ggX2_nearest_X0_begin
set_option maxRecDepth 20000 in
theorem ggX2_nearest_X0_spread : GoodIn wsX2_nearest wsX0_spread := goodIn_r _ [35, 36, 37, 38, 39, 40, 41, 42, 26, 43, 44, 32, 45, 46, 47, 21, 48, 49, 50, 51, 52, 53, 54, 55, 56, 24, 96, 97, 98, 82, 83, 84, 85, 86, 87, 88, 89, 90, 91, 92, 93, 94, 95] (by decide +kernel) (by decide +kernel)
set_option maxRecDepth 20000 in
theorem gX2_nearest_X0_spread_n135 : GoodIn wsX2_nearest (wsX0_spread) := ggX2_nearest_X0_spread
set_option maxRecDepth 20000 in
theorem ggX2_nearest_X2_hasCharger : GoodIn wsX2_nearest wsX2_hasCharger := goodIn_r _ [60, 61, 62, 70, 71, 72, 73, 74, 75, 76, 77, 78, 79, 80, 81] (by decide +kernel) (by decide +kernel)
set_option maxRecDepth 20000 in
theorem gX2_nearest_X2_hasCharger : GoodIn wsX2_nearest (wsV RX2 150 RX2 yX2_hasCharger wsX2_hasCharger) := goodIn_app (goodIn_of _ (by decide +kernel)) ggX2_nearest_X2_hasCharger
set_option maxRecDepth 20000 in
theorem ggX2_nearest_X0_secondsTo : GoodIn wsX2_nearest wsX0_secondsTo := goodIn_r _ [65, 66, 67, 68, 21, 69, 37, 53, 54, 55, 56, 36, 24, 82, 83, 84, 85, 86, 87, 88, 89, 90, 91, 92, 93, 94, 95, 96, 97, 98] (by decide +kernel) (by decide +kernel)
set_option maxRecDepth 20000 in
theorem gX2_nearest_X0_secondsTo_n146 : GoodIn wsX2_nearest (wsX0_secondsTo) := ggX2_nearest_X0_secondsTo
theorem dX2_nearest_0 : decode cX2_nearest 0 = .ok (.aload_n 0, 1) := by decide +kernel
theorem dX2_nearest_1 : decode cX2_nearest 1 = .ok (.iload_n 1, 1) := by decide +kernel
theorem dX2_nearest_2 : decode cX2_nearest 2 = .ok (.iload_n 2, 1) := by decide +kernel
theorem dX2_nearest_3 : decode cX2_nearest 3 = .ok (.iload_n 2, 1) := by decide +kernel
theorem dX2_nearest_4 : decode cX2_nearest 4 = .ok (.iload_n 3, 1) := by decide +kernel
theorem dX2_nearest_5 : decode cX2_nearest 5 = .ok (.invokevirtual 127, 3) := by decide +kernel
theorem dX2_nearest_8 : decode cX2_nearest 8 = .ok (.aload_n 0, 1) := by decide +kernel
theorem dX2_nearest_9 : decode cX2_nearest 9 = .ok (.getfield 19, 3) := by decide +kernel
theorem dX2_nearest_12 : decode cX2_nearest 12 = .ok (.aload_n 0, 1) := by decide +kernel
theorem dX2_nearest_13 : decode cX2_nearest 13 = .ok (.getfield 12, 3) := by decide +kernel
theorem dX2_nearest_16 : decode cX2_nearest 16 = .ok (.aload_n 0, 1) := by decide +kernel
theorem dX2_nearest_17 : decode cX2_nearest 17 = .ok (.getfield 23, 3) := by decide +kernel
theorem dX2_nearest_20 : decode cX2_nearest 20 = .ok (.iload_n 1, 1) := by decide +kernel
theorem dX2_nearest_21 : decode cX2_nearest 21 = .ok (.iaload, 1) := by decide +kernel
theorem dX2_nearest_22 : decode cX2_nearest 22 = .ok (.iload_n 3, 1) := by decide +kernel
theorem dX2_nearest_23 : decode cX2_nearest 23 = .ok (.invokevirtual 131, 3) := by decide +kernel
theorem dX2_nearest_26 : decode cX2_nearest 26 = .ok (.aload_n 0, 1) := by decide +kernel
theorem dX2_nearest_27 : decode cX2_nearest 27 = .ok (.getfield 19, 3) := by decide +kernel
theorem dX2_nearest_30 : decode cX2_nearest 30 = .ok (.aload_n 0, 1) := by decide +kernel
theorem dX2_nearest_31 : decode cX2_nearest 31 = .ok (.getfield 12, 3) := by decide +kernel
theorem dX2_nearest_34 : decode cX2_nearest 34 = .ok (.iload_n 2, 1) := by decide +kernel
theorem dX2_nearest_35 : decode cX2_nearest 35 = .ok (.invokevirtual 135, 3) := by decide +kernel
theorem dX2_nearest_38 : decode cX2_nearest 38 = .ok (.iconst (-1), 1) := by decide +kernel
theorem dX2_nearest_39 : decode cX2_nearest 39 = .ok (.istore 4, 2) := by decide +kernel
theorem dX2_nearest_41 : decode cX2_nearest 41 = .ok (.ldc 163, 2) := by decide +kernel
