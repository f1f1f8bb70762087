theorem dX2_nearest_43 : decode cX2_nearest 43 = .ok (.istore 5, 2) := by decide +kernel
theorem dX2_nearest_45 : decode cX2_nearest 45 = .ok (.iconst 0, 1) := by decide +kernel
theorem dX2_nearest_46 : decode cX2_nearest 46 = .ok (.istore 6, 2) := by decide +kernel
theorem dX2_nearest_48 : decode cX2_nearest 48 = .ok (.iload 6, 2) := by decide +kernel
theorem dX2_nearest_50 : decode cX2_nearest 50 = .ok (.aload_n 0, 1) := by decide +kernel
theorem dX2_nearest_51 : decode cX2_nearest 51 = .ok (.getfield 12, 3) := by decide +kernel
theorem dX2_nearest_54 : decode cX2_nearest 54 = .ok (.getfield 50, 3) := by decide +kernel
theorem dX2_nearest_57 : decode cX2_nearest 57 = .ok (.if_icmp .ge 55, 3) := by decide +kernel
theorem dX2_nearest_60 : decode cX2_nearest 60 = .ok (.aload_n 0, 1) := by decide +kernel
theorem dX2_nearest_61 : decode cX2_nearest 61 = .ok (.iload 6, 2) := by decide +kernel
theorem dX2_nearest_63 : decode cX2_nearest 63 = .ok (.invokevirtual 150, 3) := by decide +kernel
theorem dX2_nearest_66 : decode cX2_nearest 66 = .ok (.ifCond .eq 40, 3) := by decide +kernel
theorem dX2_nearest_69 : decode cX2_nearest 69 = .ok (.aload_n 0, 1) := by decide +kernel
theorem dX2_nearest_70 : decode cX2_nearest 70 = .ok (.getfield 19, 3) := by decide +kernel
theorem dX2_nearest_73 : decode cX2_nearest 73 = .ok (.aload_n 0, 1) := by decide +kernel
theorem dX2_nearest_74 : decode cX2_nearest 74 = .ok (.getfield 12, 3) := by decide +kernel
theorem dX2_nearest_77 : decode cX2_nearest 77 = .ok (.iload_n 2, 1) := by decide +kernel
theorem dX2_nearest_78 : decode cX2_nearest 78 = .ok (.iload 6, 2) := by decide +kernel
theorem dX2_nearest_80 : decode cX2_nearest 80 = .ok (.invokevirtual 146, 3) := by decide +kernel
theorem dX2_nearest_83 : decode cX2_nearest 83 = .ok (.istore 7, 2) := by decide +kernel
theorem dX2_nearest_85 : decode cX2_nearest 85 = .ok (.iload 7, 2) := by decide +kernel
theorem dX2_nearest_87 : decode cX2_nearest 87 = .ok (.iconst (-1), 1) := by decide +kernel
theorem dX2_nearest_88 : decode cX2_nearest 88 = .ok (.if_icmp .eq 18, 3) := by decide +kernel
theorem dX2_nearest_91 : decode cX2_nearest 91 = .ok (.iload 7, 2) := by decide +kernel
theorem dX2_nearest_93 : decode cX2_nearest 93 = .ok (.iload 5, 2) := by decide +kernel
theorem dX2_nearest_95 : decode cX2_nearest 95 = .ok (.if_icmp .ge 11, 3) := by decide +kernel
theorem dX2_nearest_98 : decode cX2_nearest 98 = .ok (.iload 6, 2) := by decide +kernel
theorem dX2_nearest_100 : decode cX2_nearest 100 = .ok (.istore 4, 2) := by decide +kernel
theorem dX2_nearest_102 : decode cX2_nearest 102 = .ok (.iload 7, 2) := by decide +kernel
theorem dX2_nearest_104 : decode cX2_nearest 104 = .ok (.istore 5, 2) := by decide +kernel
theorem dX2_nearest_106 : decode cX2_nearest 106 = .ok (.iinc 6 1, 3) := by decide +kernel
theorem dX2_nearest_109 : decode cX2_nearest 109 = .ok (.goto (-61), 3) := by decide +kernel
theorem dX2_nearest_112 : decode cX2_nearest 112 = .ok (.iload 4, 2) := by decide +kernel
theorem dX2_nearest_114 : decode cX2_nearest 114 = .ok (.ireturn, 1) := by decide +kernel
set_option maxRecDepth 20000 in
theorem ggX2_table_X2_workRow : GoodIn wsX2_table wsX2_workRow := goodIn_r _ [15, 16, 17, 18, 19, 4, 10, 8, 9, 20, 21, 22, 23, 24, 25, 26, 27, 28, 29, 30, 31, 32, 33, 34, 35, 36, 37, 38, 39, 40, 41, 42, 43, 44, 45, 46, 47, 48, 49, 50, 51, 52, 53, 54, 55, 56, 57, 58, 59, 60, 61, 62, 63, 64, 65, 66, 67, 68, 69, 70, 71, 72, 73, 74, 75, 76, 83, 84, 85, 86, 87, 88, 89, 90, 91, 92, 93, 94, 95, 96, 97, 98, 99] (by decide +kernel) (by decide +kernel)
set_option maxRecDepth 20000 in
theorem gX2_table_X2_workRow : GoodIn wsX2_table (wsV RX2 171 RX2 yX2_workRow wsX2_workRow) := goodIn_app (goodIn_of _ (by decide +kernel)) ggX2_table_X2_workRow
theorem dX2_table_0 : decode cX2_table 0 = .ok (.aload_n 0, 1) := by decide +kernel
theorem dX2_table_1 : decode cX2_table 1 = .ok (.getfield 118, 3) := by decide +kernel
theorem dX2_table_4 : decode cX2_table 4 = .ok (.ifCond .ne 13, 3) := by decide +kernel
theorem dX2_table_7 : decode cX2_table 7 = .ok (.new 153, 3) := by decide +kernel
theorem dX2_table_10 : decode cX2_table 10 = .ok (.dup, 1) := by decide +kernel
theorem dX2_table_11 : decode cX2_table 11 = .ok (.ldc 164, 2) := by decide +kernel
theorem dX2_table_13 : decode cX2_table 13 = .ok (.invokespecial 157, 3) := by decide +kernel
theorem dX2_table_16 : decode cX2_table 16 = .ok (.athrow, 1) := by decide +kernel
theorem dX2_table_17 : decode cX2_table 17 = .ok (.iload_n 1, 1) := by decide +kernel
theorem dX2_table_18 : decode cX2_table 18 = .ok (.ifCond .lt 23, 3) := by decide +kernel
theorem dX2_table_21 : decode cX2_table 21 = .ok (.iload_n 1, 1) := by decide +kernel
theorem dX2_table_22 : decode cX2_table 22 = .ok (.aload_n 0, 1) := by decide +kernel
theorem dX2_table_23 : decode cX2_table 23 = .ok (.getfield 158, 3) := by decide +kernel
theorem dX2_table_26 : decode cX2_table 26 = .ok (.if_icmp .ge 15, 3) := by decide +kernel
theorem dX2_table_29 : decode cX2_table 29 = .ok (.iload_n 2, 1) := by decide +kernel
theorem dX2_table_30 : decode cX2_table 30 = .ok (.ifCond .lt 11, 3) := by decide +kernel
theorem dX2_table_33 : decode cX2_table 33 = .ok (.iload_n 2, 1) := by decide +kernel
theorem dX2_table_34 : decode cX2_table 34 = .ok (.aload_n 0, 1) := by decide +kernel
theorem dX2_table_35 : decode cX2_table 35 = .ok (.getfield 158, 3) := by decide +kernel
theorem dX2_table_38 : decode cX2_table 38 = .ok (.if_icmp .lt 13, 3) := by decide +kernel
theorem dX2_table_41 : decode cX2_table 41 = .ok (.new 166, 3) := by decide +kernel
theorem dX2_table_44 : decode cX2_table 44 = .ok (.dup, 1) := by decide +kernel
theorem dX2_table_45 : decode cX2_table 45 = .ok (.ldc 168, 2) := by decide +kernel
theorem dX2_table_47 : decode cX2_table 47 = .ok (.invokespecial 170, 3) := by decide +kernel
theorem dX2_table_50 : decode cX2_table 50 = .ok (.athrow, 1) := by decide +kernel
theorem dX2_table_51 : decode cX2_table 51 = .ok (.aload_n 0, 1) := by decide +kernel
theorem dX2_table_52 : decode cX2_table 52 = .ok (.getfield 38, 3) := by decide +kernel
theorem dX2_table_55 : decode cX2_table 55 = .ok (.iload_n 1, 1) := by decide +kernel
theorem dX2_table_56 : decode cX2_table 56 = .ok (.iaload, 1) := by decide +kernel
theorem dX2_table_57 : decode cX2_table 57 = .ok (.aload_n 0, 1) := by decide +kernel
theorem dX2_table_58 : decode cX2_table 58 = .ok (.getfield 59, 3) := by decide +kernel
theorem dX2_table_61 : decode cX2_table 61 = .ok (.if_icmp .eq 8, 3) := by decide +kernel
theorem dX2_table_64 : decode cX2_table 64 = .ok (.aload_n 0, 1) := by decide +kernel
theorem dX2_table_65 : decode cX2_table 65 = .ok (.iload_n 1, 1) := by decide +kernel
theorem dX2_table_66 : decode cX2_table 66 = .ok (.invokevirtual 171, 3) := by decide +kernel
theorem dX2_table_69 : decode cX2_table 69 = .ok (.aload_n 0, 1) := by decide +kernel
theorem dX2_table_70 : decode cX2_table 70 = .ok (.getfield 35, 3) := by decide +kernel
theorem dX2_table_73 : decode cX2_table 73 = .ok (.iload_n 1, 1) := by decide +kernel
theorem dX2_table_74 : decode cX2_table 74 = .ok (.aaload, 1) := by decide +kernel
theorem dX2_table_75 : decode cX2_table 75 = .ok (.iload_n 2, 1) := by decide +kernel
theorem dX2_table_76 : decode cX2_table 76 = .ok (.iaload, 1) := by decide +kernel
theorem dX2_table_77 : decode cX2_table 77 = .ok (.ireturn, 1) := by decide +kernel
theorem dX2_rows_0 : decode cX2_rows 0 = .ok (.aload_n 0, 1) := by decide +kernel
theorem dX2_rows_1 : decode cX2_rows 1 = .ok (.getfield 174, 3) := by decide +kernel
theorem dX2_rows_4 : decode cX2_rows 4 = .ok (.ireturn, 1) := by decide +kernel
set_option maxRecDepth 20000 in
theorem ggX2_plain_X2_needJourney : GoodIn wsX2_plain wsX2_needJourney := goodIn_ca (goodIn_r _ [10, 1, 2, 11, 12, 13, 14, 9, 15, 4, 16, 17, 18, 43, 44, 45, 46, 47, 48, 49, 50, 51, 52, 53, 54, 55, 56, 57, 58, 59, 60, 61, 62, 63, 64, 65, 66, 67, 68] (by decide +kernel) (by decide +kernel)) (goodIn_sub (fun _ h => List.mem_cons_of_mem _ (List.mem_append_right _ h)) (by decide +kernel))
set_option maxRecDepth 20000 in
theorem gX2_plain_X2_needJourney : GoodIn wsX2_plain (wsV RX2 127 RX2 yX2_needJourney wsX2_needJourney) := goodIn_app (goodIn_of _ (by decide +kernel)) ggX2_plain_X2_needJourney
set_option maxRecDepth 20000 in
theorem ggX2_plain_X0_begin : GoodIn wsX2_plain wsX0_begin := goodIn_r _ [22, 23, 24, 25, 26, 27, 28, 29, 30, 31, 55, 56, 57, 58, 59, 60, 61, 62, 63, 64, 65, 66, 67, 68, 69, 70, 71] (by decide +kernel) (by decide +kernel)
set_option maxRecDepth 20000 in
theorem gX2_plain_X0_begin_n131 : GoodIn wsX2_plain (wsX0_begin) := ggX2_plain_X0_begin
set_option maxRecDepth 20000 in
theorem ggX2_plain_X0_waysBetween : GoodIn wsX2_plain wsX0_waysBetween := goodIn_r _ [34, 35, 36, 25, 37, 38, 31, 39, 40, 41, 20, 42, 23, 55, 56, 57, 58, 59, 60, 61, 62, 63, 64, 65, 66, 67, 68, 69, 70, 71] (by decide +kernel) (by decide +kernel)
set_option maxRecDepth 20000 in
theorem gX2_plain_X0_waysBetween_n179 : GoodIn wsX2_plain (wsX0_waysBetween) := ggX2_plain_X0_waysBetween
theorem dX2_plain_0 : decode cX2_plain 0 = .ok (.aload_n 0, 1) := by decide +kernel
theorem dX2_plain_1 : decode cX2_plain 1 = .ok (.iload_n 1, 1) := by decide +kernel
theorem dX2_plain_2 : decode cX2_plain 2 = .ok (.iload_n 2, 1) := by decide +kernel
theorem dX2_plain_3 : decode cX2_plain 3 = .ok (.iload_n 3, 1) := by decide +kernel
theorem dX2_plain_4 : decode cX2_plain 4 = .ok (.iload 4, 2) := by decide +kernel
theorem dX2_plain_6 : decode cX2_plain 6 = .ok (.invokevirtual 127, 3) := by decide +kernel
theorem dX2_plain_9 : decode cX2_plain 9 = .ok (.iload 5, 2) := by decide +kernel
theorem dX2_plain_11 : decode cX2_plain 11 = .ok (.ifCond .lt 9, 3) := by decide +kernel
theorem dX2_plain_14 : decode cX2_plain 14 = .ok (.iload 5, 2) := by decide +kernel
theorem dX2_plain_16 : decode cX2_plain 16 = .ok (.iconst 5, 1) := by decide +kernel
theorem dX2_plain_17 : decode cX2_plain 17 = .ok (.if_icmp .le 13, 3) := by decide +kernel
theorem dX2_plain_20 : decode cX2_plain 20 = .ok (.new 41, 3) := by decide +kernel
theorem dX2_plain_23 : decode cX2_plain 23 = .ok (.dup, 1) := by decide +kernel
theorem dX2_plain_24 : decode cX2_plain 24 = .ok (.ldc 177, 2) := by decide +kernel
theorem dX2_plain_26 : decode cX2_plain 26 = .ok (.invokespecial 45, 3) := by decide +kernel
theorem dX2_plain_29 : decode cX2_plain 29 = .ok (.athrow, 1) := by decide +kernel
theorem dX2_plain_30 : decode cX2_plain 30 = .ok (.iload_n 2, 1) := by decide +kernel
theorem dX2_plain_31 : decode cX2_plain 31 = .ok (.iload_n 3, 1) := by decide +kernel
theorem dX2_plain_32 : decode cX2_plain 32 = .ok (.if_icmp .ne 5, 3) := by decide +kernel
theorem dX2_plain_35 : decode cX2_plain 35 = .ok (.iconst 0, 1) := by decide +kernel
theorem dX2_plain_36 : decode cX2_plain 36 = .ok (.ireturn, 1) := by decide +kernel
theorem dX2_plain_37 : decode cX2_plain 37 = .ok (.aload_n 0, 1) := by decide +kernel
theorem dX2_plain_38 : decode cX2_plain 38 = .ok (.getfield 19, 3) := by decide +kernel
theorem dX2_plain_41 : decode cX2_plain 41 = .ok (.aload_n 0, 1) := by decide +kernel
theorem dX2_plain_42 : decode cX2_plain 42 = .ok (.getfield 12, 3) := by decide +kernel
theorem dX2_plain_45 : decode cX2_plain 45 = .ok (.aload_n 0, 1) := by decide +kernel
theorem dX2_plain_46 : decode cX2_plain 46 = .ok (.getfield 23, 3) := by decide +kernel
theorem dX2_plain_49 : decode cX2_plain 49 = .ok (.iload_n 1, 1) := by decide +kernel
theorem dX2_plain_50 : decode cX2_plain 50 = .ok (.iaload, 1) := by decide +kernel
theorem dX2_plain_51 : decode cX2_plain 51 = .ok (.iload 4, 2) := by decide +kernel
theorem dX2_plain_53 : decode cX2_plain 53 = .ok (.invokevirtual 131, 3) := by decide +kernel
theorem dX2_plain_56 : decode cX2_plain 56 = .ok (.aload_n 0, 1) := by decide +kernel
theorem dX2_plain_57 : decode cX2_plain 57 = .ok (.getfield 19, 3) := by decide +kernel
theorem dX2_plain_60 : decode cX2_plain 60 = .ok (.aload_n 0, 1) := by decide +kernel
theorem dX2_plain_61 : decode cX2_plain 61 = .ok (.getfield 12, 3) := by decide +kernel
theorem dX2_plain_64 : decode cX2_plain 64 = .ok (.iload_n 2, 1) := by decide +kernel
theorem dX2_plain_65 : decode cX2_plain 65 = .ok (.iload_n 3, 1) := by decide +kernel
theorem dX2_plain_66 : decode cX2_plain 66 = .ok (.iload 5, 2) := by decide +kernel
theorem dX2_plain_68 : decode cX2_plain 68 = .ok (.invokevirtual 179, 3) := by decide +kernel
theorem dX2_plain_71 : decode cX2_plain 71 = .ok (.ireturn, 1) := by decide +kernel
set_option maxRecDepth 20000 in
theorem ggX2_count_X1_barredAmong : GoodIn wsX2_count wsX1_barredAmong := goodIn_r _ [7, 8, 21, 22, 23, 24, 25, 26, 27, 28, 29, 30, 31, 32, 33, 34] (by decide +kernel) (by decide +kernel)
set_option maxRecDepth 20000 in
theorem gX2_count_X1_barredAmong_n95 : GoodIn wsX2_count (wsX1_barredAmong) := ggX2_count_X1_barredAmong
theorem dX2_count_0 : decode cX2_count 0 = .ok (.iload_n 1, 1) := by decide +kernel
theorem dX2_count_1 : decode cX2_count 1 = .ok (.tableswitch 79 0 4 #[35, 43, 53, 58, 63], 35) := by decide +kernel
theorem dX2_count_36 : decode cX2_count 36 = .ok (.aload_n 0, 1) := by decide +kernel
theorem dX2_count_37 : decode cX2_count 37 = .ok (.getfield 12, 3) := by decide +kernel
theorem dX2_count_40 : decode cX2_count 40 = .ok (.getfield 50, 3) := by decide +kernel
theorem dX2_count_43 : decode cX2_count 43 = .ok (.ireturn, 1) := by decide +kernel
theorem dX2_count_44 : decode cX2_count 44 = .ok (.aload_n 0, 1) := by decide +kernel
theorem dX2_count_45 : decode cX2_count 45 = .ok (.getfield 12, 3) := by decide +kernel
theorem dX2_count_48 : decode cX2_count 48 = .ok (.getfield 86, 3) := by decide +kernel
theorem dX2_count_51 : decode cX2_count 51 = .ok (.iconst 2, 1) := by decide +kernel
theorem dX2_count_52 : decode cX2_count 52 = .ok (.idiv, 1) := by decide +kernel
theorem dX2_count_53 : decode cX2_count 53 = .ok (.ireturn, 1) := by decide +kernel
theorem dX2_count_54 : decode cX2_count 54 = .ok (.aload_n 0, 1) := by decide +kernel
theorem dX2_count_55 : decode cX2_count 55 = .ok (.getfield 118, 3) := by decide +kernel
theorem dX2_count_58 : decode cX2_count 58 = .ok (.ireturn, 1) := by decide +kernel
theorem dX2_count_59 : decode cX2_count 59 = .ok (.aload_n 0, 1) := by decide +kernel
theorem dX2_count_60 : decode cX2_count 60 = .ok (.getfield 158, 3) := by decide +kernel
theorem dX2_count_63 : decode cX2_count 63 = .ok (.ireturn, 1) := by decide +kernel
theorem dX2_count_64 : decode cX2_count 64 = .ok (.aload_n 0, 1) := by decide +kernel
theorem dX2_count_65 : decode cX2_count 65 = .ok (.getfield 12, 3) := by decide +kernel
theorem dX2_count_68 : decode cX2_count 68 = .ok (.iconst 0, 1) := by decide +kernel
theorem dX2_count_69 : decode cX2_count 69 = .ok (.aload_n 0, 1) := by decide +kernel
theorem dX2_count_70 : decode cX2_count 70 = .ok (.getfield 12, 3) := by decide +kernel
theorem dX2_count_73 : decode cX2_count 73 = .ok (.getfield 86, 3) := by decide +kernel
theorem dX2_count_76 : decode cX2_count 76 = .ok (.invokevirtual 95, 3) := by decide +kernel
theorem dX2_count_79 : decode cX2_count 79 = .ok (.ireturn, 1) := by decide +kernel
theorem dX2_count_80 : decode cX2_count 80 = .ok (.iconst (-1), 1) := by decide +kernel
theorem dX2_count_81 : decode cX2_count 81 = .ok (.ireturn, 1) := by decide +kernel
set_option maxRecDepth 20000 in
theorem ggX2_joinEnds_X1_addJoin : GoodIn wsX2_joinEnds wsX1_addJoin := goodIn_r _ [10, 11, 12, 13, 14, 8, 15, 16, 17, 18, 19, 20, 33, 34, 35, 36, 37, 38, 39, 40, 41, 42, 43, 44, 45, 46] (by decide +kernel) (by decide +kernel)
set_option maxRecDepth 20000 in
theorem gX2_joinEnds_X1_addJoin_n187 : GoodIn wsX2_joinEnds (wsX1_addJoin) := ggX2_joinEnds_X1_addJoin
theorem dX2_joinEnds_0 : decode cX2_joinEnds 0 = .ok (.iload_n 3, 1) := by decide +kernel
theorem dX2_joinEnds_1 : decode cX2_joinEnds 1 = .ok (.ifCond .lt 9, 3) := by decide +kernel
theorem dX2_joinEnds_4 : decode cX2_joinEnds 4 = .ok (.iload_n 3, 1) := by decide +kernel
theorem dX2_joinEnds_5 : decode cX2_joinEnds 5 = .ok (.bipush 100, 2) := by decide +kernel
theorem dX2_joinEnds_7 : decode cX2_joinEnds 7 = .ok (.if_icmp .le 13, 3) := by decide +kernel
theorem dX2_joinEnds_10 : decode cX2_joinEnds 10 = .ok (.new 41, 3) := by decide +kernel
theorem dX2_joinEnds_13 : decode cX2_joinEnds 13 = .ok (.dup, 1) := by decide +kernel
theorem dX2_joinEnds_14 : decode cX2_joinEnds 14 = .ok (.ldc 183, 2) := by decide +kernel
theorem dX2_joinEnds_16 : decode cX2_joinEnds 16 = .ok (.invokespecial 45, 3) := by decide +kernel
theorem dX2_joinEnds_19 : decode cX2_joinEnds 19 = .ok (.athrow, 1) := by decide +kernel
theorem dX2_joinEnds_20 : decode cX2_joinEnds 20 = .ok (.aload_n 0, 1) := by decide +kernel
theorem dX2_joinEnds_21 : decode cX2_joinEnds 21 = .ok (.getfield 12, 3) := by decide +kernel
theorem dX2_joinEnds_24 : decode cX2_joinEnds 24 = .ok (.getfield 86, 3) := by decide +kernel
theorem dX2_joinEnds_27 : decode cX2_joinEnds 27 = .ok (.bipush 80, 2) := by decide +kernel
theorem dX2_joinEnds_29 : decode cX2_joinEnds 29 = .ok (.if_icmp .lt 13, 3) := by decide +kernel
theorem dX2_joinEnds_32 : decode cX2_joinEnds 32 = .ok (.new 54, 3) := by decide +kernel
theorem dX2_joinEnds_35 : decode cX2_joinEnds 35 = .ok (.dup, 1) := by decide +kernel
theorem dX2_joinEnds_36 : decode cX2_joinEnds 36 = .ok (.ldc 185, 2) := by decide +kernel
theorem dX2_joinEnds_38 : decode cX2_joinEnds 38 = .ok (.invokespecial 58, 3) := by decide +kernel
theorem dX2_joinEnds_41 : decode cX2_joinEnds 41 = .ok (.athrow, 1) := by decide +kernel
theorem dX2_joinEnds_42 : decode cX2_joinEnds 42 = .ok (.aload_n 0, 1) := by decide +kernel
theorem dX2_joinEnds_43 : decode cX2_joinEnds 43 = .ok (.dup, 1) := by decide +kernel
theorem dX2_joinEnds_44 : decode cX2_joinEnds 44 = .ok (.getfield 59, 3) := by decide +kernel
theorem dX2_joinEnds_47 : decode cX2_joinEnds 47 = .ok (.iconst 1, 1) := by decide +kernel
theorem dX2_joinEnds_48 : decode cX2_joinEnds 48 = .ok (.iadd, 1) := by decide +kernel
theorem dX2_joinEnds_49 : decode cX2_joinEnds 49 = .ok (.putfield 59, 3) := by decide +kernel
theorem dX2_joinEnds_52 : decode cX2_joinEnds 52 = .ok (.aload_n 0, 1) := by decide +kernel
theorem dX2_joinEnds_53 : decode cX2_joinEnds 53 = .ok (.getfield 12, 3) := by decide +kernel
theorem dX2_joinEnds_56 : decode cX2_joinEnds 56 = .ok (.iload_n 1, 1) := by decide +kernel
theorem dX2_joinEnds_57 : decode cX2_joinEnds 57 = .ok (.iload_n 2, 1) := by decide +kernel
theorem dX2_joinEnds_58 : decode cX2_joinEnds 58 = .ok (.iload_n 3, 1) := by decide +kernel
theorem dX2_joinEnds_59 : decode cX2_joinEnds 59 = .ok (.invokevirtual 187, 3) := by decide +kernel
theorem dX2_joinEnds_62 : decode cX2_joinEnds 62 = .ok (.ireturn, 1) := by decide +kernel
theorem dX2_hasCharger_0 : decode cX2_hasCharger 0 = .ok (.iconst 0, 1) := by decide +kernel
theorem dX2_hasCharger_1 : decode cX2_hasCharger 1 = .ok (.istore_n 2, 1) := by decide +kernel
theorem dX2_hasCharger_2 : decode cX2_hasCharger 2 = .ok (.iload_n 2, 1) := by decide +kernel
theorem dX2_hasCharger_3 : decode cX2_hasCharger 3 = .ok (.aload_n 0, 1) := by decide +kernel
theorem dX2_hasCharger_4 : decode cX2_hasCharger 4 = .ok (.getfield 158, 3) := by decide +kernel
theorem dX2_hasCharger_7 : decode cX2_hasCharger 7 = .ok (.if_icmp .ge 21, 3) := by decide +kernel
theorem dX2_hasCharger_10 : decode cX2_hasCharger 10 = .ok (.aload_n 0, 1) := by decide +kernel
theorem dX2_hasCharger_11 : decode cX2_hasCharger 11 = .ok (.getfield 27, 3) := by decide +kernel
theorem dX2_hasCharger_14 : decode cX2_hasCharger 14 = .ok (.iload_n 2, 1) := by decide +kernel
theorem dX2_hasCharger_15 : decode cX2_hasCharger 15 = .ok (.iaload, 1) := by decide +kernel
theorem dX2_hasCharger_16 : decode cX2_hasCharger 16 = .ok (.iload_n 1, 1) := by decide +kernel
theorem dX2_hasCharger_17 : decode cX2_hasCharger 17 = .ok (.if_icmp .ne 5, 3) := by decide +kernel
theorem dX2_hasCharger_20 : decode cX2_hasCharger 20 = .ok (.iconst 1, 1) := by decide +kernel
theorem dX2_hasCharger_21 : decode cX2_hasCharger 21 = .ok (.ireturn, 1) := by decide +kernel
theorem dX2_hasCharger_22 : decode cX2_hasCharger 22 = .ok (.iinc 2 1, 3) := by decide +kernel
theorem dX2_hasCharger_25 : decode cX2_hasCharger 25 = .ok (.goto (-23), 3) := by decide +kernel
theorem dX2_hasCharger_28 : decode cX2_hasCharger 28 = .ok (.iconst 0, 1) := by decide +kernel
theorem dX2_hasCharger_29 : decode cX2_hasCharger 29 = .ok (.ireturn, 1) := by decide +kernel
set_option maxRecDepth 20000 in
theorem ggX2_workRow_X0_begin : GoodIn wsX2_workRow wsX0_begin := goodIn_r _ [13, 14, 15, 16, 17, 18, 19, 20, 21, 22, 66, 67, 68, 69, 70, 71, 72, 73, 74, 75, 76, 77, 78, 79, 80, 81, 82] (by decide +kernel) (by decide +kernel)
set_option maxRecDepth 20000 in
theorem gX2_workRow_X0_begin_n131 : GoodIn wsX2_workRow (wsX0_begin) := ggX2_workRow_X0_begin
set_option maxRecDepth 20000 in
theorem ggX2_workRow_X0_spread : GoodIn wsX2_workRow wsX0_spread := goodIn_r _ [25, 26, 27, 28, 29, 30, 31, 32, 16, 33, 34, 22, 35, 36, 37, 11, 38, 39, 40, 41, 42, 43, 44, 45, 46, 14, 80, 81, 82, 66, 67, 68, 69, 70, 71, 72, 73, 74, 75, 76, 77, 78, 79] (by decide +kernel) (by decide +kernel)
set_option maxRecDepth 20000 in
theorem gX2_workRow_X0_spread_n135 : GoodIn wsX2_workRow (wsX0_spread) := ggX2_workRow_X0_spread
set_option maxRecDepth 20000 in
theorem ggX2_workRow_X0_secondsTo : GoodIn wsX2_workRow wsX0_secondsTo := goodIn_r _ [49, 50, 51, 52, 11, 53, 27, 43, 44, 45, 46, 26, 14, 66, 67, 68, 69, 70, 71, 72, 73, 74, 75, 76, 77, 78, 79, 80, 81, 82] (by decide +kernel) (by decide +kernel)
set_option maxRecDepth 20000 in
theorem gX2_workRow_X0_secondsTo_n146 : GoodIn wsX2_workRow (wsX0_secondsTo) := ggX2_workRow_X0_secondsTo
theorem dX2_workRow_0 : decode cX2_workRow 0 = .ok (.aload_n 0, 1) := by decide +kernel
theorem dX2_workRow_1 : decode cX2_workRow 1 = .ok (.getfield 27, 3) := by decide +kernel
theorem dX2_workRow_4 : decode cX2_workRow 4 = .ok (.iload_n 1, 1) := by decide +kernel
theorem dX2_workRow_5 : decode cX2_workRow 5 = .ok (.iaload, 1) := by decide +kernel
theorem dX2_workRow_6 : decode cX2_workRow 6 = .ok (.istore_n 2, 1) := by decide +kernel
theorem dX2_workRow_7 : decode cX2_workRow 7 = .ok (.aload_n 0, 1) := by decide +kernel
theorem dX2_workRow_8 : decode cX2_workRow 8 = .ok (.getfield 19, 3) := by decide +kernel
theorem dX2_workRow_11 : decode cX2_workRow 11 = .ok (.aload_n 0, 1) := by decide +kernel
theorem dX2_workRow_12 : decode cX2_workRow 12 = .ok (.getfield 12, 3) := by decide +kernel
theorem dX2_workRow_15 : decode cX2_workRow 15 = .ok (.aload_n 0, 1) := by decide +kernel
theorem dX2_workRow_16 : decode cX2_workRow 16 = .ok (.getfield 23, 3) := by decide +kernel
theorem dX2_workRow_19 : decode cX2_workRow 19 = .ok (.iconst 0, 1) := by decide +kernel
theorem dX2_workRow_20 : decode cX2_workRow 20 = .ok (.iaload, 1) := by decide +kernel
theorem dX2_workRow_21 : decode cX2_workRow 21 = .ok (.bipush 12, 2) := by decide +kernel
theorem dX2_workRow_23 : decode cX2_workRow 23 = .ok (.invokevirtual 131, 3) := by decide +kernel
theorem dX2_workRow_26 : decode cX2_workRow 26 = .ok (.aload_n 0, 1) := by decide +kernel
theorem dX2_workRow_27 : decode cX2_workRow 27 = .ok (.getfield 19, 3) := by decide +kernel
theorem dX2_workRow_30 : decode cX2_workRow 30 = .ok (.aload_n 0, 1) := by decide +kernel
theorem dX2_workRow_31 : decode cX2_workRow 31 = .ok (.getfield 12, 3) := by decide +kernel
theorem dX2_workRow_34 : decode cX2_workRow 34 = .ok (.iload_n 2, 1) := by decide +kernel
theorem dX2_workRow_35 : decode cX2_workRow 35 = .ok (.invokevirtual 135, 3) := by decide +kernel
theorem dX2_workRow_38 : decode cX2_workRow 38 = .ok (.iconst 0, 1) := by decide +kernel
theorem dX2_workRow_39 : decode cX2_workRow 39 = .ok (.istore_n 3, 1) := by decide +kernel
theorem dX2_workRow_40 : decode cX2_workRow 40 = .ok (.iload_n 3, 1) := by decide +kernel
theorem dX2_workRow_41 : decode cX2_workRow 41 = .ok (.aload_n 0, 1) := by decide +kernel
theorem dX2_workRow_42 : decode cX2_workRow 42 = .ok (.getfield 158, 3) := by decide +kernel
theorem dX2_workRow_45 : decode cX2_workRow 45 = .ok (.if_icmp .ge 35, 3) := by decide +kernel
theorem dX2_workRow_48 : decode cX2_workRow 48 = .ok (.aload_n 0, 1) := by decide +kernel
theorem dX2_workRow_49 : decode cX2_workRow 49 = .ok (.getfield 35, 3) := by decide +kernel
theorem dX2_workRow_52 : decode cX2_workRow 52 = .ok (.iload_n 1, 1) := by decide +kernel
theorem dX2_workRow_53 : decode cX2_workRow 53 = .ok (.aaload, 1) := by decide +kernel
theorem dX2_workRow_54 : decode cX2_workRow 54 = .ok (.iload_n 3, 1) := by decide +kernel
theorem dX2_workRow_55 : decode cX2_workRow 55 = .ok (.aload_n 0, 1) := by decide +kernel
theorem dX2_workRow_56 : decode cX2_workRow 56 = .ok (.getfield 19, 3) := by decide +kernel
theorem dX2_workRow_59 : decode cX2_workRow 59 = .ok (.aload_n 0, 1) := by decide +kernel
theorem dX2_workRow_60 : decode cX2_workRow 60 = .ok (.getfield 12, 3) := by decide +kernel
theorem dX2_workRow_63 : decode cX2_workRow 63 = .ok (.iload_n 2, 1) := by decide +kernel
theorem dX2_workRow_64 : decode cX2_workRow 64 = .ok (.aload_n 0, 1) := by decide +kernel
theorem dX2_workRow_65 : decode cX2_workRow 65 = .ok (.getfield 27, 3) := by decide +kernel
theorem dX2_workRow_68 : decode cX2_workRow 68 = .ok (.iload_n 3, 1) := by decide +kernel
theorem dX2_workRow_69 : decode cX2_workRow 69 = .ok (.iaload, 1) := by decide +kernel
theorem dX2_workRow_70 : decode cX2_workRow 70 = .ok (.invokevirtual 146, 3) := by decide +kernel
theorem dX2_workRow_73 : decode cX2_workRow 73 = .ok (.iastore, 1) := by decide +kernel
theorem dX2_workRow_74 : decode cX2_workRow 74 = .ok (.iinc 3 1, 3) := by decide +kernel
theorem dX2_workRow_77 : decode cX2_workRow 77 = .ok (.goto (-37), 3) := by decide +kernel
theorem dX2_workRow_80 : decode cX2_workRow 80 = .ok (.aload_n 0, 1) := by decide +kernel
theorem dX2_workRow_81 : decode cX2_workRow 81 = .ok (.getfield 38, 3) := by decide +kernel
theorem dX2_workRow_84 : decode cX2_workRow 84 = .ok (.iload_n 1, 1) := by decide +kernel
theorem dX2_workRow_85 : decode cX2_workRow 85 = .ok (.aload_n 0, 1) := by decide +kernel
theorem dX2_workRow_86 : decode cX2_workRow 86 = .ok (.getfield 59, 3) := by decide +kernel
theorem dX2_workRow_89 : decode cX2_workRow 89 = .ok (.iastore, 1) := by decide +kernel
theorem dX2_workRow_90 : decode cX2_workRow 90 = .ok (.aload_n 0, 1) := by decide +kernel
theorem dX2_workRow_91 : decode cX2_workRow 91 = .ok (.dup, 1) := by decide +kernel
theorem dX2_workRow_92 : decode cX2_workRow 92 = .ok (.getfield 174, 3) := by decide +kernel
theorem dX2_workRow_95 : decode cX2_workRow 95 = .ok (.iconst 1, 1) := by decide +kernel
theorem dX2_workRow_96 : decode cX2_workRow 96 = .ok (.iadd, 1) := by decide +kernel
theorem dX2_workRow_97 : decode cX2_workRow 97 = .ok (.putfield 174, 3) := by decide +kernel
theorem dX2_workRow_100 : decode cX2_workRow 100 = .ok (.return_, 1) := by decide +kernel
set_option maxRecDepth 20000 in
theorem ggX2_needJourney_X2_needPiece : GoodIn wsX2_needJourney wsX2_needPiece := goodIn_ca (goodIn_r _ [8, 1, 2, 9, 13, 14, 15, 16, 17, 18, 19, 20, 21, 22, 23, 24, 25, 26, 27, 28, 29, 30, 31, 32, 33, 34, 35, 36, 37, 38] (by decide +kernel) (by decide +kernel)) (goodIn_sub (fun _ h => List.mem_cons_of_mem _ (List.mem_append_right _ h)) (by decide +kernel))
set_option maxRecDepth 20000 in
theorem gX2_needJourney_X2_needPiece : GoodIn wsX2_needJourney (wsV RX2 66 RX2 yX2_needPiece wsX2_needPiece) := goodIn_app (goodIn_of _ (by decide +kernel)) ggX2_needJourney_X2_needPiece
set_option maxRecDepth 20000 in
theorem ggX2_needJourney_X2_needHour : GoodIn wsX2_needJourney wsX2_needHour := goodIn_ca (goodIn_r _ [12, 1, 2] (by decide +kernel) (by decide +kernel)) (goodIn_sub (fun _ h => List.mem_cons_of_mem _ (List.mem_append_right _ h)) (by decide +kernel))
set_option maxRecDepth 20000 in
theorem gX2_needJourney_X2_needHour : GoodIn wsX2_needJourney (va_wsS RX2 105 yX2_needHour wsX2_needHour) := goodIn_app (goodIn_of _ (by decide +kernel)) ggX2_needJourney_X2_needHour
theorem dX2_needJourney_0 : decode cX2_needJourney 0 = .ok (.iload_n 1, 1) := by decide +kernel
theorem dX2_needJourney_1 : decode cX2_needJourney 1 = .ok (.ifCond .lt 11, 3) := by decide +kernel
theorem dX2_needJourney_4 : decode cX2_needJourney 4 = .ok (.iload_n 1, 1) := by decide +kernel
theorem dX2_needJourney_5 : decode cX2_needJourney 5 = .ok (.aload_n 0, 1) := by decide +kernel
theorem dX2_needJourney_6 : decode cX2_needJourney 6 = .ok (.getfield 118, 3) := by decide +kernel
theorem dX2_needJourney_9 : decode cX2_needJourney 9 = .ok (.if_icmp .lt 13, 3) := by decide +kernel
theorem dX2_needJourney_12 : decode cX2_needJourney 12 = .ok (.new 41, 3) := by decide +kernel
theorem dX2_needJourney_15 : decode cX2_needJourney 15 = .ok (.dup, 1) := by decide +kernel
theorem dX2_needJourney_16 : decode cX2_needJourney 16 = .ok (.ldc 190, 2) := by decide +kernel
theorem dX2_needJourney_18 : decode cX2_needJourney 18 = .ok (.invokespecial 45, 3) := by decide +kernel
theorem dX2_needJourney_21 : decode cX2_needJourney 21 = .ok (.athrow, 1) := by decide +kernel
theorem dX2_needJourney_22 : decode cX2_needJourney 22 = .ok (.aload_n 0, 1) := by decide +kernel
theorem dX2_needJourney_23 : decode cX2_needJourney 23 = .ok (.iload_n 2, 1) := by decide +kernel
theorem dX2_needJourney_24 : decode cX2_needJourney 24 = .ok (.invokevirtual 66, 3) := by decide +kernel
theorem dX2_needJourney_27 : decode cX2_needJourney 27 = .ok (.aload_n 0, 1) := by decide +kernel
theorem dX2_needJourney_28 : decode cX2_needJourney 28 = .ok (.iload_n 3, 1) := by decide +kernel
theorem dX2_needJourney_29 : decode cX2_needJourney 29 = .ok (.invokevirtual 66, 3) := by decide +kernel
theorem dX2_needJourney_32 : decode cX2_needJourney 32 = .ok (.iload 4, 2) := by decide +kernel
theorem dX2_needJourney_34 : decode cX2_needJourney 34 = .ok (.invokestatic 105, 3) := by decide +kernel
theorem dX2_needJourney_37 : decode cX2_needJourney 37 = .ok (.return_, 1) := by decide +kernel
theorem dX2_needPiece_0 : decode cX2_needPiece 0 = .ok (.iload_n 1, 1) := by decide +kernel
theorem dX2_needPiece_1 : decode cX2_needPiece 1 = .ok (.ifCond .lt 14, 3) := by decide +kernel
theorem dX2_needPiece_4 : decode cX2_needPiece 4 = .ok (.iload_n 1, 1) := by decide +kernel
theorem dX2_needPiece_5 : decode cX2_needPiece 5 = .ok (.aload_n 0, 1) := by decide +kernel
theorem dX2_needPiece_6 : decode cX2_needPiece 6 = .ok (.getfield 12, 3) := by decide +kernel
theorem dX2_needPiece_9 : decode cX2_needPiece 9 = .ok (.getfield 50, 3) := by decide +kernel
theorem dX2_needPiece_12 : decode cX2_needPiece 12 = .ok (.if_icmp .lt 13, 3) := by decide +kernel
theorem dX2_needPiece_15 : decode cX2_needPiece 15 = .ok (.new 41, 3) := by decide +kernel
theorem dX2_needPiece_18 : decode cX2_needPiece 18 = .ok (.dup, 1) := by decide +kernel
theorem dX2_needPiece_19 : decode cX2_needPiece 19 = .ok (.ldc 192, 2) := by decide +kernel
theorem dX2_needPiece_21 : decode cX2_needPiece 21 = .ok (.invokespecial 45, 3) := by decide +kernel
theorem dX2_needPiece_24 : decode cX2_needPiece 24 = .ok (.athrow, 1) := by decide +kernel
theorem dX2_needPiece_25 : decode cX2_needPiece 25 = .ok (.return_, 1) := by decide +kernel
theorem dX2_needHour_0 : decode cX2_needHour 0 = .ok (.iload_n 0, 1) := by decide +kernel
theorem dX2_needHour_1 : decode cX2_needHour 1 = .ok (.ifCond .lt 9, 3) := by decide +kernel
theorem dX2_needHour_4 : decode cX2_needHour 4 = .ok (.iload_n 0, 1) := by decide +kernel
theorem dX2_needHour_5 : decode cX2_needHour 5 = .ok (.bipush 24, 2) := by decide +kernel
theorem dX2_needHour_7 : decode cX2_needHour 7 = .ok (.if_icmp .lt 13, 3) := by decide +kernel
theorem dX2_needHour_10 : decode cX2_needHour 10 = .ok (.new 41, 3) := by decide +kernel
theorem dX2_needHour_13 : decode cX2_needHour 13 = .ok (.dup, 1) := by decide +kernel
theorem dX2_needHour_14 : decode cX2_needHour 14 = .ok (.ldc 194, 2) := by decide +kernel
theorem dX2_needHour_16 : decode cX2_needHour 16 = .ok (.invokespecial 45, 3) := by decide +kernel
theorem dX2_needHour_19 : decode cX2_needHour 19 = .ok (.athrow, 1) := by decide +kernel
theorem dX2_needHour_20 : decode cX2_needHour 20 = .ok (.return_, 1) := by decide +kernel
theorem dX2_needWidth_0 : decode cX2_needWidth 0 = .ok (.iload_n 0, 1) := by decide +kernel
theorem dX2_needWidth_1 : decode cX2_needWidth 1 = .ok (.iconst 1, 1) := by decide +kernel
theorem dX2_needWidth_2 : decode cX2_needWidth 2 = .ok (.if_icmp .lt 10, 3) := by decide +kernel
theorem dX2_needWidth_5 : decode cX2_needWidth 5 = .ok (.iload_n 0, 1) := by decide +kernel
theorem dX2_needWidth_6 : decode cX2_needWidth 6 = .ok (.sipush 500, 3) := by decide +kernel
theorem dX2_needWidth_9 : decode cX2_needWidth 9 = .ok (.if_icmp .le 13, 3) := by decide +kernel
theorem dX2_needWidth_12 : decode cX2_needWidth 12 = .ok (.new 41, 3) := by decide +kernel
theorem dX2_needWidth_15 : decode cX2_needWidth 15 = .ok (.dup, 1) := by decide +kernel
theorem dX2_needWidth_16 : decode cX2_needWidth 16 = .ok (.ldc 196, 2) := by decide +kernel
theorem dX2_needWidth_18 : decode cX2_needWidth 18 = .ok (.invokespecial 45, 3) := by decide +kernel
theorem dX2_needWidth_21 : decode cX2_needWidth 21 = .ok (.athrow, 1) := by decide +kernel
theorem dX2_needWidth_22 : decode cX2_needWidth 22 = .ok (.return_, 1) := by decide +kernel
theorem dX2_needZeroOrOne_0 : decode cX2_needZeroOrOne 0 = .ok (.iload_n 0, 1) := by decide +kernel
theorem dX2_needZeroOrOne_1 : decode cX2_needZeroOrOne 1 = .ok (.ifCond .eq 18, 3) := by decide +kernel
theorem dX2_needZeroOrOne_4 : decode cX2_needZeroOrOne 4 = .ok (.iload_n 0, 1) := by decide +kernel
theorem dX2_needZeroOrOne_5 : decode cX2_needZeroOrOne 5 = .ok (.iconst 1, 1) := by decide +kernel
theorem dX2_needZeroOrOne_6 : decode cX2_needZeroOrOne 6 = .ok (.if_icmp .eq 13, 3) := by decide +kernel
theorem dX2_needZeroOrOne_9 : decode cX2_needZeroOrOne 9 = .ok (.new 41, 3) := by decide +kernel
theorem dX2_needZeroOrOne_12 : decode cX2_needZeroOrOne 12 = .ok (.dup, 1) := by decide +kernel
theorem dX2_needZeroOrOne_13 : decode cX2_needZeroOrOne 13 = .ok (.ldc 198, 2) := by decide +kernel
theorem dX2_needZeroOrOne_15 : decode cX2_needZeroOrOne 15 = .ok (.invokespecial 45, 3) := by decide +kernel
theorem dX2_needZeroOrOne_18 : decode cX2_needZeroOrOne 18 = .ok (.athrow, 1) := by decide +kernel
theorem dX2_needZeroOrOne_19 : decode cX2_needZeroOrOne 19 = .ok (.return_, 1) := by decide +kernel
theorem dX3_init_0 : decode cX3_init 0 = .ok (.aload_n 0, 1) := by decide +kernel
theorem dX3_init_1 : decode cX3_init 1 = .ok (.invokespecial 1, 3) := by decide +kernel
theorem dX3_init_4 : decode cX3_init 4 = .ok (.aload_n 0, 1) := by decide +kernel
theorem dX3_init_5 : decode cX3_init 5 = .ok (.bipush 20, 2) := by decide +kernel
theorem dX3_init_7 : decode cX3_init 7 = .ok (.newarray .int, 2) := by decide +kernel
theorem dX3_init_9 : decode cX3_init 9 = .ok (.putfield 7, 3) := by decide +kernel
theorem dX3_init_12 : decode cX3_init 12 = .ok (.aload_n 0, 1) := by decide +kernel
theorem dX3_init_13 : decode cX3_init 13 = .ok (.bipush 20, 2) := by decide +kernel
theorem dX3_init_15 : decode cX3_init 15 = .ok (.newarray .int, 2) := by decide +kernel
theorem dX3_init_17 : decode cX3_init 17 = .ok (.putfield 13, 3) := by decide +kernel
theorem dX3_init_20 : decode cX3_init 20 = .ok (.aload_n 0, 1) := by decide +kernel
theorem dX3_init_21 : decode cX3_init 21 = .ok (.bipush 20, 2) := by decide +kernel
theorem dX3_init_23 : decode cX3_init 23 = .ok (.newarray .int, 2) := by decide +kernel
theorem dX3_init_25 : decode cX3_init 25 = .ok (.putfield 16, 3) := by decide +kernel
theorem dX3_init_28 : decode cX3_init 28 = .ok (.aload_n 0, 1) := by decide +kernel
theorem dX3_init_29 : decode cX3_init 29 = .ok (.bipush 20, 2) := by decide +kernel
theorem dX3_init_31 : decode cX3_init 31 = .ok (.newarray .boolean, 2) := by decide +kernel
theorem dX3_init_33 : decode cX3_init 33 = .ok (.putfield 19, 3) := by decide +kernel
theorem dX3_init_36 : decode cX3_init 36 = .ok (.aload_n 0, 1) := by decide +kernel
theorem dX3_init_37 : decode cX3_init 37 = .ok (.bipush 20, 2) := by decide +kernel
theorem dX3_init_39 : decode cX3_init 39 = .ok (.newarray .boolean, 2) := by decide +kernel
theorem dX3_init_41 : decode cX3_init 41 = .ok (.putfield 23, 3) := by decide +kernel
theorem dX3_init_44 : decode cX3_init 44 = .ok (.aload_n 0, 1) := by decide +kernel
theorem dX3_init_45 : decode cX3_init 45 = .ok (.bipush 20, 2) := by decide +kernel
theorem dX3_init_47 : decode cX3_init 47 = .ok (.newarray .int, 2) := by decide +kernel
theorem dX3_init_49 : decode cX3_init 49 = .ok (.putfield 26, 3) := by decide +kernel
theorem dX3_init_52 : decode cX3_init 52 = .ok (.aload_n 0, 1) := by decide +kernel
theorem dX3_init_53 : decode cX3_init 53 = .ok (.bipush 40, 2) := by decide +kernel
theorem dX3_init_55 : decode cX3_init 55 = .ok (.newarray .int, 2) := by decide +kernel
theorem dX3_init_57 : decode cX3_init 57 = .ok (.putfield 29, 3) := by decide +kernel
theorem dX3_init_60 : decode cX3_init 60 = .ok (.aload_n 0, 1) := by decide +kernel
theorem dX3_init_61 : decode cX3_init 61 = .ok (.bipush 40, 2) := by decide +kernel
theorem dX3_init_63 : decode cX3_init 63 = .ok (.newarray .int, 2) := by decide +kernel
theorem dX3_init_65 : decode cX3_init 65 = .ok (.putfield 32, 3) := by decide +kernel
theorem dX3_init_68 : decode cX3_init 68 = .ok (.aload_n 0, 1) := by decide +kernel
theorem dX3_init_69 : decode cX3_init 69 = .ok (.bipush 40, 2) := by decide +kernel
theorem dX3_init_71 : decode cX3_init 71 = .ok (.newarray .int, 2) := by decide +kernel
theorem dX3_init_73 : decode cX3_init 73 = .ok (.putfield 35, 3) := by decide +kernel
theorem dX3_init_76 : decode cX3_init 76 = .ok (.aload_n 0, 1) := by decide +kernel
theorem dX3_init_77 : decode cX3_init 77 = .ok (.bipush 40, 2) := by decide +kernel
theorem dX3_init_79 : decode cX3_init 79 = .ok (.newarray .int, 2) := by decide +kernel
theorem dX3_init_81 : decode cX3_init 81 = .ok (.putfield 38, 3) := by decide +kernel
theorem dX3_init_84 : decode cX3_init 84 = .ok (.aload_n 0, 1) := by decide +kernel
theorem dX3_init_85 : decode cX3_init 85 = .ok (.bipush 6, 2) := by decide +kernel
theorem dX3_init_87 : decode cX3_init 87 = .ok (.newarray .int, 2) := by decide +kernel
theorem dX3_init_89 : decode cX3_init 89 = .ok (.putfield 41, 3) := by decide +kernel
theorem dX3_init_92 : decode cX3_init 92 = .ok (.aload_n 0, 1) := by decide +kernel
theorem dX3_init_93 : decode cX3_init 93 = .ok (.bipush 8, 2) := by decide +kernel
theorem dX3_init_95 : decode cX3_init 95 = .ok (.newarray .int, 2) := by decide +kernel
theorem dX3_init_97 : decode cX3_init 97 = .ok (.putfield 44, 3) := by decide +kernel
theorem dX3_init_100 : decode cX3_init 100 = .ok (.aload_n 0, 1) := by decide +kernel
theorem dX3_init_101 : decode cX3_init 101 = .ok (.bipush 8, 2) := by decide +kernel
theorem dX3_init_103 : decode cX3_init 103 = .ok (.newarray .int, 2) := by decide +kernel
theorem dX3_init_105 : decode cX3_init 105 = .ok (.putfield 47, 3) := by decide +kernel
theorem dX3_init_108 : decode cX3_init 108 = .ok (.aload_n 0, 1) := by decide +kernel
theorem dX3_init_109 : decode cX3_init 109 = .ok (.bipush 40, 2) := by decide +kernel
theorem dX3_init_111 : decode cX3_init 111 = .ok (.newarray .int, 2) := by decide +kernel
theorem dX3_init_113 : decode cX3_init 113 = .ok (.putfield 50, 3) := by decide +kernel
theorem dX3_init_116 : decode cX3_init 116 = .ok (.aload_n 0, 1) := by decide +kernel
theorem dX3_init_117 : decode cX3_init 117 = .ok (.bipush 42, 2) := by decide +kernel
theorem dX3_init_119 : decode cX3_init 119 = .ok (.newarray .int, 2) := by decide +kernel
theorem dX3_init_121 : decode cX3_init 121 = .ok (.putfield 53, 3) := by decide +kernel
theorem dX3_init_124 : decode cX3_init 124 = .ok (.aload_n 0, 1) := by decide +kernel
theorem dX3_init_125 : decode cX3_init 125 = .ok (.bipush 7, 2) := by decide +kernel
theorem dX3_init_127 : decode cX3_init 127 = .ok (.newarray .int, 2) := by decide +kernel
theorem dX3_init_129 : decode cX3_init 129 = .ok (.putfield 56, 3) := by decide +kernel
theorem dX3_init_132 : decode cX3_init 132 = .ok (.iconst 0, 1) := by decide +kernel
theorem dX3_init_133 : decode cX3_init 133 = .ok (.istore_n 1, 1) := by decide +kernel
theorem dX3_init_134 : decode cX3_init 134 = .ok (.iload_n 1, 1) := by decide +kernel
theorem dX3_init_135 : decode cX3_init 135 = .ok (.bipush 8, 2) := by decide +kernel
theorem dX3_init_137 : decode cX3_init 137 = .ok (.if_icmp .ge 16, 3) := by decide +kernel
theorem dX3_init_140 : decode cX3_init 140 = .ok (.aload_n 0, 1) := by decide +kernel
theorem dX3_init_141 : decode cX3_init 141 = .ok (.getfield 47, 3) := by decide +kernel
theorem dX3_init_144 : decode cX3_init 144 = .ok (.iload_n 1, 1) := by decide +kernel
theorem dX3_init_145 : decode cX3_init 145 = .ok (.iconst (-1), 1) := by decide +kernel
theorem dX3_init_146 : decode cX3_init 146 = .ok (.iastore, 1) := by decide +kernel
theorem dX3_init_147 : decode cX3_init 147 = .ok (.iinc 1 1, 3) := by decide +kernel
theorem dX3_init_150 : decode cX3_init 150 = .ok (.goto (-16), 3) := by decide +kernel
theorem dX3_init_153 : decode cX3_init 153 = .ok (.return_, 1) := by decide +kernel
theorem dX3_thrown_0 : decode cX3_thrown 0 = .ok (.aload_n 0, 1) := by decide +kernel
theorem dX3_thrown_1 : decode cX3_thrown 1 = .ok (.getfield 59, 3) := by decide +kernel
theorem dX3_thrown_4 : decode cX3_thrown 4 = .ok (.ireturn, 1) := by decide +kernel
theorem dX3_in_0 : decode cX3_in 0 = .ok (.iload_n 0, 1) := by decide +kernel
theorem dX3_in_1 : decode cX3_in 1 = .ok (.iload_n 1, 1) := by decide +kernel
theorem dX3_in_2 : decode cX3_in 2 = .ok (.if_icmp .lt 12, 3) := by decide +kernel
theorem dX3_in_5 : decode cX3_in 5 = .ok (.iload_n 0, 1) := by decide +kernel
theorem dX3_in_6 : decode cX3_in 6 = .ok (.iload_n 2, 1) := by decide +kernel
theorem dX3_in_7 : decode cX3_in 7 = .ok (.if_icmp .gt 7, 3) := by decide +kernel
theorem dX3_in_10 : decode cX3_in 10 = .ok (.iconst 1, 1) := by decide +kernel
theorem dX3_in_11 : decode cX3_in 11 = .ok (.goto 4, 3) := by decide +kernel
theorem dX3_in_14 : decode cX3_in 14 = .ok (.iconst 0, 1) := by decide +kernel
theorem dX3_in_15 : decode cX3_in 15 = .ok (.ireturn, 1) := by decide +kernel
set_option maxRecDepth 20000 in
theorem ggX3_isPiece_X3_in : GoodIn wsX3_isPiece wsX3_in := goodIn_r _ [5] (by decide +kernel) (by decide +kernel)
set_option maxRecDepth 20000 in
theorem gX3_isPiece_X3_in : GoodIn wsX3_isPiece (va_wsS RX3 66 yX3_in wsX3_in) := goodIn_app (goodIn_of _ (by decide +kernel)) ggX3_isPiece_X3_in
theorem dX3_isPiece_0 : decode cX3_isPiece 0 = .ok (.iload_n 1, 1) := by decide +kernel
theorem dX3_isPiece_1 : decode cX3_isPiece 1 = .ok (.iconst 0, 1) := by decide +kernel
theorem dX3_isPiece_2 : decode cX3_isPiece 2 = .ok (.aload_n 0, 1) := by decide +kernel
theorem dX3_isPiece_3 : decode cX3_isPiece 3 = .ok (.getfield 63, 3) := by decide +kernel
theorem dX3_isPiece_6 : decode cX3_isPiece 6 = .ok (.iconst 1, 1) := by decide +kernel
theorem dX3_isPiece_7 : decode cX3_isPiece 7 = .ok (.isub, 1) := by decide +kernel
theorem dX3_isPiece_8 : decode cX3_isPiece 8 = .ok (.invokestatic 66, 3) := by decide +kernel
theorem dX3_isPiece_11 : decode cX3_isPiece 11 = .ok (.ireturn, 1) := by decide +kernel
set_option maxRecDepth 20000 in
theorem ggX3_piece_X3_in : GoodIn wsX3_piece wsX3_in := goodIn_r _ [11] (by decide +kernel) (by decide +kernel)
set_option maxRecDepth 20000 in
theorem gX3_piece_X3_in : GoodIn wsX3_piece (va_wsS RX3 66 yX3_in wsX3_in) := goodIn_app (goodIn_of _ (by decide +kernel)) ggX3_piece_X3_in
theorem dX3_piece_0 : decode cX3_piece 0 = .ok (.aload_n 0, 1) := by decide +kernel
theorem dX3_piece_1 : decode cX3_piece 1 = .ok (.iload_n 1, 1) := by decide +kernel
theorem dX3_piece_2 : decode cX3_piece 2 = .ok (.iconst 0, 1) := by decide +kernel
theorem dX3_piece_3 : decode cX3_piece 3 = .ok (.bipush 9, 2) := by decide +kernel
theorem dX3_piece_5 : decode cX3_piece 5 = .ok (.invokestatic 66, 3) := by decide +kernel
theorem dX3_piece_8 : decode cX3_piece 8 = .ok (.ifCond .eq 14, 3) := by decide +kernel
theorem dX3_piece_11 : decode cX3_piece 11 = .ok (.iload_n 2, 1) := by decide +kernel
theorem dX3_piece_12 : decode cX3_piece 12 = .ok (.iconst 1, 1) := by decide +kernel
theorem dX3_piece_13 : decode cX3_piece 13 = .ok (.sipush 1000, 3) := by decide +kernel
theorem dX3_piece_16 : decode cX3_piece 16 = .ok (.invokestatic 66, 3) := by decide +kernel
theorem dX3_piece_19 : decode cX3_piece 19 = .ok (.ifCond .ne 7, 3) := by decide +kernel
theorem dX3_piece_22 : decode cX3_piece 22 = .ok (.iconst 1, 1) := by decide +kernel
theorem dX3_piece_23 : decode cX3_piece 23 = .ok (.goto 17, 3) := by decide +kernel
theorem dX3_piece_26 : decode cX3_piece 26 = .ok (.aload_n 0, 1) := by decide +kernel
theorem dX3_piece_27 : decode cX3_piece 27 = .ok (.getfield 63, 3) := by decide +kernel
theorem dX3_piece_30 : decode cX3_piece 30 = .ok (.bipush 20, 2) := by decide +kernel
theorem dX3_piece_32 : decode cX3_piece 32 = .ok (.if_icmp .ne 7, 3) := by decide +kernel
theorem dX3_piece_35 : decode cX3_piece 35 = .ok (.iconst 2, 1) := by decide +kernel
theorem dX3_piece_36 : decode cX3_piece 36 = .ok (.goto 4, 3) := by decide +kernel
theorem dX3_piece_39 : decode cX3_piece 39 = .ok (.iconst 0, 1) := by decide +kernel
theorem dX3_piece_40 : decode cX3_piece 40 = .ok (.putfield 59, 3) := by decide +kernel
theorem dX3_piece_43 : decode cX3_piece 43 = .ok (.aload_n 0, 1) := by decide +kernel
theorem dX3_piece_44 : decode cX3_piece 44 = .ok (.getfield 59, 3) := by decide +kernel
theorem dX3_piece_47 : decode cX3_piece 47 = .ok (.ifCond .le 5, 3) := by decide +kernel
theorem dX3_piece_50 : decode cX3_piece 50 = .ok (.iconst 0, 1) := by decide +kernel
theorem dX3_piece_51 : decode cX3_piece 51 = .ok (.ireturn, 1) := by decide +kernel
theorem dX3_piece_52 : decode cX3_piece 52 = .ok (.aload_n 0, 1) := by decide +kernel
theorem dX3_piece_53 : decode cX3_piece 53 = .ok (.getfield 7, 3) := by decide +kernel
theorem dX3_piece_56 : decode cX3_piece 56 = .ok (.aload_n 0, 1) := by decide +kernel
theorem dX3_piece_57 : decode cX3_piece 57 = .ok (.getfield 63, 3) := by decide +kernel
theorem dX3_piece_60 : decode cX3_piece 60 = .ok (.iload_n 1, 1) := by decide +kernel
theorem dX3_piece_61 : decode cX3_piece 61 = .ok (.iastore, 1) := by decide +kernel
theorem dX3_piece_62 : decode cX3_piece 62 = .ok (.aload_n 0, 1) := by decide +kernel
theorem dX3_piece_63 : decode cX3_piece 63 = .ok (.getfield 13, 3) := by decide +kernel
theorem dX3_piece_66 : decode cX3_piece 66 = .ok (.aload_n 0, 1) := by decide +kernel
theorem dX3_piece_67 : decode cX3_piece 67 = .ok (.getfield 63, 3) := by decide +kernel
theorem dX3_piece_70 : decode cX3_piece 70 = .ok (.iload_n 2, 1) := by decide +kernel
theorem dX3_piece_71 : decode cX3_piece 71 = .ok (.iastore, 1) := by decide +kernel
theorem dX3_piece_72 : decode cX3_piece 72 = .ok (.aload_n 0, 1) := by decide +kernel
theorem dX3_piece_73 : decode cX3_piece 73 = .ok (.getfield 16, 3) := by decide +kernel
theorem dX3_piece_76 : decode cX3_piece 76 = .ok (.aload_n 0, 1) := by decide +kernel
theorem dX3_piece_77 : decode cX3_piece 77 = .ok (.getfield 63, 3) := by decide +kernel
theorem dX3_piece_80 : decode cX3_piece 80 = .ok (.bipush 100, 2) := by decide +kernel
theorem dX3_piece_82 : decode cX3_piece 82 = .ok (.iastore, 1) := by decide +kernel
theorem dX3_piece_83 : decode cX3_piece 83 = .ok (.aload_n 0, 1) := by decide +kernel
theorem dX3_piece_84 : decode cX3_piece 84 = .ok (.getfield 19, 3) := by decide +kernel
theorem dX3_piece_87 : decode cX3_piece 87 = .ok (.aload_n 0, 1) := by decide +kernel
theorem dX3_piece_88 : decode cX3_piece 88 = .ok (.getfield 63, 3) := by decide +kernel
theorem dX3_piece_91 : decode cX3_piece 91 = .ok (.iload_n 3, 1) := by decide +kernel
theorem dX3_piece_92 : decode cX3_piece 92 = .ok (.bastore, 1) := by decide +kernel
theorem dX3_piece_93 : decode cX3_piece 93 = .ok (.aload_n 0, 1) := by decide +kernel
theorem dX3_piece_94 : decode cX3_piece 94 = .ok (.dup, 1) := by decide +kernel
theorem dX3_piece_95 : decode cX3_piece 95 = .ok (.getfield 63, 3) := by decide +kernel
theorem dX3_piece_98 : decode cX3_piece 98 = .ok (.iconst 1, 1) := by decide +kernel
theorem dX3_piece_99 : decode cX3_piece 99 = .ok (.iadd, 1) := by decide +kernel
theorem dX3_piece_100 : decode cX3_piece 100 = .ok (.putfield 63, 3) := by decide +kernel
theorem dX3_piece_103 : decode cX3_piece 103 = .ok (.aload_n 0, 1) := by decide +kernel
theorem dX3_piece_104 : decode cX3_piece 104 = .ok (.dup, 1) := by decide +kernel
theorem dX3_piece_105 : decode cX3_piece 105 = .ok (.getfield 70, 3) := by decide +kernel
theorem dX3_piece_108 : decode cX3_piece 108 = .ok (.iconst 1, 1) := by decide +kernel
theorem dX3_piece_109 : decode cX3_piece 109 = .ok (.iadd, 1) := by decide +kernel
theorem dX3_piece_110 : decode cX3_piece 110 = .ok (.putfield 70, 3) := by decide +kernel
theorem dX3_piece_113 : decode cX3_piece 113 = .ok (.aload_n 0, 1) := by decide +kernel
theorem dX3_piece_114 : decode cX3_piece 114 = .ok (.getfield 63, 3) := by decide +kernel
theorem dX3_piece_117 : decode cX3_piece 117 = .ok (.iconst 1, 1) := by decide +kernel
theorem dX3_piece_118 : decode cX3_piece 118 = .ok (.isub, 1) := by decide +kernel
theorem dX3_piece_119 : decode cX3_piece 119 = .ok (.ireturn, 1) := by decide +kernel
theorem dX3_link_0 : decode cX3_link 0 = .ok (.aload_n 0, 1) := by decide +kernel
theorem dX3_link_1 : decode cX3_link 1 = .ok (.getfield 29, 3) := by decide +kernel
theorem dX3_link_4 : decode cX3_link 4 = .ok (.aload_n 0, 1) := by decide +kernel
theorem dX3_link_5 : decode cX3_link 5 = .ok (.getfield 73, 3) := by decide +kernel
theorem dX3_link_8 : decode cX3_link 8 = .ok (.iload_n 1, 1) := by decide +kernel
theorem dX3_link_9 : decode cX3_link 9 = .ok (.iastore, 1) := by decide +kernel
theorem dX3_link_10 : decode cX3_link 10 = .ok (.aload_n 0, 1) := by decide +kernel
theorem dX3_link_11 : decode cX3_link 11 = .ok (.getfield 32, 3) := by decide +kernel
theorem dX3_link_14 : decode cX3_link 14 = .ok (.aload_n 0, 1) := by decide +kernel
theorem dX3_link_15 : decode cX3_link 15 = .ok (.getfield 73, 3) := by decide +kernel
theorem dX3_link_18 : decode cX3_link 18 = .ok (.iload_n 2, 1) := by decide +kernel
theorem dX3_link_19 : decode cX3_link 19 = .ok (.iastore, 1) := by decide +kernel
theorem dX3_link_20 : decode cX3_link 20 = .ok (.aload_n 0, 1) := by decide +kernel
theorem dX3_link_21 : decode cX3_link 21 = .ok (.getfield 35, 3) := by decide +kernel
theorem dX3_link_24 : decode cX3_link 24 = .ok (.aload_n 0, 1) := by decide +kernel
theorem dX3_link_25 : decode cX3_link 25 = .ok (.getfield 73, 3) := by decide +kernel
theorem dX3_link_28 : decode cX3_link 28 = .ok (.iload_n 3, 1) := by decide +kernel
theorem dX3_link_29 : decode cX3_link 29 = .ok (.iastore, 1) := by decide +kernel
theorem dX3_link_30 : decode cX3_link 30 = .ok (.aload_n 0, 1) := by decide +kernel
theorem dX3_link_31 : decode cX3_link 31 = .ok (.dup, 1) := by decide +kernel
theorem dX3_link_32 : decode cX3_link 32 = .ok (.getfield 73, 3) := by decide +kernel
theorem dX3_link_35 : decode cX3_link 35 = .ok (.iconst 1, 1) := by decide +kernel
theorem dX3_link_36 : decode cX3_link 36 = .ok (.iadd, 1) := by decide +kernel
theorem dX3_link_37 : decode cX3_link 37 = .ok (.putfield 73, 3) := by decide +kernel
theorem dX3_link_40 : decode cX3_link 40 = .ok (.aload_n 0, 1) := by decide +kernel
theorem dX3_link_41 : decode cX3_link 41 = .ok (.dup, 1) := by decide +kernel
theorem dX3_link_42 : decode cX3_link 42 = .ok (.getfield 70, 3) := by decide +kernel
theorem dX3_link_45 : decode cX3_link 45 = .ok (.iconst 1, 1) := by decide +kernel
theorem dX3_link_46 : decode cX3_link 46 = .ok (.iadd, 1) := by decide +kernel
theorem dX3_link_47 : decode cX3_link 47 = .ok (.putfield 70, 3) := by decide +kernel
theorem dX3_link_50 : decode cX3_link 50 = .ok (.aload_n 0, 1) := by decide +kernel
theorem dX3_link_51 : decode cX3_link 51 = .ok (.getfield 73, 3) := by decide +kernel
theorem dX3_link_54 : decode cX3_link 54 = .ok (.iconst 1, 1) := by decide +kernel
theorem dX3_link_55 : decode cX3_link 55 = .ok (.isub, 1) := by decide +kernel
theorem dX3_link_56 : decode cX3_link 56 = .ok (.ireturn, 1) := by decide +kernel
set_option maxRecDepth 20000 in
theorem ggX3_join_X3_isPiece : GoodIn wsX3_join wsX3_isPiece := goodIn_r _ [8, 9, 10, 11, 7, 12, 21, 22, 23, 24, 25, 26, 27, 28, 29, 30, 31, 32, 33, 34, 35, 36, 37, 38, 39, 40, 41, 42, 43, 44] (by decide +kernel) (by decide +kernel)
set_option maxRecDepth 20000 in
theorem gX3_join_X3_isPiece : GoodIn wsX3_join (wsV RX3 76 RX3 yX3_isPiece wsX3_isPiece) := goodIn_app (goodIn_of _ (by decide +kernel)) ggX3_join_X3_isPiece
set_option maxRecDepth 20000 in
theorem ggX3_join_X3_in : GoodIn wsX3_join wsX3_in := goodIn_r _ [12] (by decide +kernel) (by decide +kernel)
set_option maxRecDepth 20000 in
theorem gX3_join_X3_in : GoodIn wsX3_join (va_wsS RX3 66 yX3_in wsX3_in) := goodIn_app (goodIn_of _ (by decide +kernel)) ggX3_join_X3_in
set_option maxRecDepth 20000 in
theorem ggX3_join_X3_link : GoodIn wsX3_join wsX3_link := goodIn_r _ [16, 17, 2, 18, 19, 20, 21, 22, 23, 24, 25, 26, 27, 28, 29, 30, 31, 32, 33, 34, 35, 36, 37, 38, 39, 40, 41, 42, 43, 44] (by decide +kernel) (by decide +kernel)
set_option maxRecDepth 20000 in
theorem gX3_join_X3_link : GoodIn wsX3_join (wsV RX3 80 RX3 yX3_link wsX3_link) := goodIn_app (goodIn_of _ (by decide +kernel)) ggX3_join_X3_link
theorem dX3_join_0 : decode cX3_join 0 = .ok (.aload_n 0, 1) := by decide +kernel
theorem dX3_join_1 : decode cX3_join 1 = .ok (.iload_n 1, 1) := by decide +kernel
theorem dX3_join_2 : decode cX3_join 2 = .ok (.invokevirtual 76, 3) := by decide +kernel
theorem dX3_join_5 : decode cX3_join 5 = .ok (.ifCond .eq 50, 3) := by decide +kernel
theorem dX3_join_8 : decode cX3_join 8 = .ok (.aload_n 0, 1) := by decide +kernel
theorem dX3_join_9 : decode cX3_join 9 = .ok (.iload_n 3, 1) := by decide +kernel
theorem dX3_join_10 : decode cX3_join 10 = .ok (.invokevirtual 76, 3) := by decide +kernel
theorem dX3_join_13 : decode cX3_join 13 = .ok (.ifCond .eq 42, 3) := by decide +kernel
theorem dX3_join_16 : decode cX3_join 16 = .ok (.iload_n 2, 1) := by decide +kernel
theorem dX3_join_17 : decode cX3_join 17 = .ok (.iconst 0, 1) := by decide +kernel
theorem dX3_join_18 : decode cX3_join 18 = .ok (.iconst 1, 1) := by decide +kernel
theorem dX3_join_19 : decode cX3_join 19 = .ok (.invokestatic 66, 3) := by decide +kernel
theorem dX3_join_22 : decode cX3_join 22 = .ok (.ifCond .eq 33, 3) := by decide +kernel
theorem dX3_join_25 : decode cX3_join 25 = .ok (.iload 4, 2) := by decide +kernel
theorem dX3_join_27 : decode cX3_join 27 = .ok (.iconst 0, 1) := by decide +kernel
theorem dX3_join_28 : decode cX3_join 28 = .ok (.iconst 1, 1) := by decide +kernel
theorem dX3_join_29 : decode cX3_join 29 = .ok (.invokestatic 66, 3) := by decide +kernel
theorem dX3_join_32 : decode cX3_join 32 = .ok (.ifCond .eq 23, 3) := by decide +kernel
theorem dX3_join_35 : decode cX3_join 35 = .ok (.iload_n 1, 1) := by decide +kernel
theorem dX3_join_36 : decode cX3_join 36 = .ok (.iload_n 3, 1) := by decide +kernel
theorem dX3_join_37 : decode cX3_join 37 = .ok (.if_icmp .eq 18, 3) := by decide +kernel
theorem dX3_join_40 : decode cX3_join 40 = .ok (.iload 5, 2) := by decide +kernel
theorem dX3_join_42 : decode cX3_join 42 = .ok (.iconst 0, 1) := by decide +kernel
theorem dX3_join_43 : decode cX3_join 43 = .ok (.bipush 100, 2) := by decide +kernel
theorem dX3_join_45 : decode cX3_join 45 = .ok (.invokestatic 66, 3) := by decide +kernel
theorem dX3_join_48 : decode cX3_join 48 = .ok (.ifCond .eq 7, 3) := by decide +kernel
theorem dX3_join_51 : decode cX3_join 51 = .ok (.iconst 1, 1) := by decide +kernel
theorem dX3_join_52 : decode cX3_join 52 = .ok (.goto 4, 3) := by decide +kernel
theorem dX3_join_55 : decode cX3_join 55 = .ok (.iconst 0, 1) := by decide +kernel
theorem dX3_join_56 : decode cX3_join 56 = .ok (.istore 6, 2) := by decide +kernel
theorem dX3_join_58 : decode cX3_join 58 = .ok (.iload 6, 2) := by decide +kernel
theorem dX3_join_60 : decode cX3_join 60 = .ok (.ifCond .eq 25, 3) := by decide +kernel
theorem dX3_join_63 : decode cX3_join 63 = .ok (.aload_n 0, 1) := by decide +kernel
theorem dX3_join_64 : decode cX3_join 64 = .ok (.getfield 7, 3) := by decide +kernel
theorem dX3_join_67 : decode cX3_join 67 = .ok (.iload_n 1, 1) := by decide +kernel
theorem dX3_join_68 : decode cX3_join 68 = .ok (.iaload, 1) := by decide +kernel
theorem dX3_join_69 : decode cX3_join 69 = .ok (.aload_n 0, 1) := by decide +kernel
theorem dX3_join_70 : decode cX3_join 70 = .ok (.getfield 7, 3) := by decide +kernel
theorem dX3_join_73 : decode cX3_join 73 = .ok (.iload_n 3, 1) := by decide +kernel
theorem dX3_join_74 : decode cX3_join 74 = .ok (.iaload, 1) := by decide +kernel
theorem dX3_join_75 : decode cX3_join 75 = .ok (.if_icmp .ne 7, 3) := by decide +kernel
theorem dX3_join_78 : decode cX3_join 78 = .ok (.iconst 1, 1) := by decide +kernel
theorem dX3_join_79 : decode cX3_join 79 = .ok (.goto 4, 3) := by decide +kernel
theorem dX3_join_82 : decode cX3_join 82 = .ok (.iconst 0, 1) := by decide +kernel
theorem dX3_join_83 : decode cX3_join 83 = .ok (.istore 6, 2) := by decide +kernel
theorem dX3_join_85 : decode cX3_join 85 = .ok (.aload_n 0, 1) := by decide +kernel
theorem dX3_join_86 : decode cX3_join 86 = .ok (.iload 6, 2) := by decide +kernel
theorem dX3_join_88 : decode cX3_join 88 = .ok (.ifCond .ne 7, 3) := by decide +kernel
theorem dX3_join_91 : decode cX3_join 91 = .ok (.iconst 1, 1) := by decide +kernel
theorem dX3_join_92 : decode cX3_join 92 = .ok (.goto 17, 3) := by decide +kernel
theorem dX3_join_95 : decode cX3_join 95 = .ok (.aload_n 0, 1) := by decide +kernel
theorem dX3_join_96 : decode cX3_join 96 = .ok (.getfield 73, 3) := by decide +kernel
theorem dX3_join_99 : decode cX3_join 99 = .ok (.bipush 40, 2) := by decide +kernel
theorem dX3_join_101 : decode cX3_join 101 = .ok (.if_icmp .ne 7, 3) := by decide +kernel
theorem dX3_join_104 : decode cX3_join 104 = .ok (.iconst 2, 1) := by decide +kernel
theorem dX3_join_105 : decode cX3_join 105 = .ok (.goto 4, 3) := by decide +kernel
theorem dX3_join_108 : decode cX3_join 108 = .ok (.iconst 0, 1) := by decide +kernel
theorem dX3_join_109 : decode cX3_join 109 = .ok (.putfield 59, 3) := by decide +kernel
theorem dX3_join_112 : decode cX3_join 112 = .ok (.aload_n 0, 1) := by decide +kernel
theorem dX3_join_113 : decode cX3_join 113 = .ok (.getfield 59, 3) := by decide +kernel
theorem dX3_join_116 : decode cX3_join 116 = .ok (.ifCond .le 7, 3) := by decide +kernel
theorem dX3_join_119 : decode cX3_join 119 = .ok (.iconst 0, 1) := by decide +kernel
theorem dX3_join_120 : decode cX3_join 120 = .ok (.goto 20, 3) := by decide +kernel
theorem dX3_join_123 : decode cX3_join 123 = .ok (.aload_n 0, 1) := by decide +kernel
theorem dX3_join_124 : decode cX3_join 124 = .ok (.iconst 2, 1) := by decide +kernel
theorem dX3_join_125 : decode cX3_join 125 = .ok (.iload_n 1, 1) := by decide +kernel
theorem dX3_join_126 : decode cX3_join 126 = .ok (.imul, 1) := by decide +kernel
theorem dX3_join_127 : decode cX3_join 127 = .ok (.iload_n 2, 1) := by decide +kernel
theorem dX3_join_128 : decode cX3_join 128 = .ok (.iadd, 1) := by decide +kernel
theorem dX3_join_129 : decode cX3_join 129 = .ok (.iconst 2, 1) := by decide +kernel
theorem dX3_join_130 : decode cX3_join 130 = .ok (.iload_n 3, 1) := by decide +kernel
theorem dX3_join_131 : decode cX3_join 131 = .ok (.imul, 1) := by decide +kernel
theorem dX3_join_132 : decode cX3_join 132 = .ok (.iload 4, 2) := by decide +kernel
theorem dX3_join_134 : decode cX3_join 134 = .ok (.iadd, 1) := by decide +kernel
theorem dX3_join_135 : decode cX3_join 135 = .ok (.iload 5, 2) := by decide +kernel
theorem dX3_join_137 : decode cX3_join 137 = .ok (.invokevirtual 80, 3) := by decide +kernel
theorem dX3_join_140 : decode cX3_join 140 = .ok (.ireturn, 1) := by decide +kernel
set_option maxRecDepth 20000 in
theorem ggX3_lift_X3_isPiece : GoodIn wsX3_lift wsX3_isPiece := goodIn_r _ [8, 9, 10, 11, 7, 12, 21, 22, 23, 24, 25, 26, 27, 28, 29, 30, 31, 32, 33, 34, 35, 36, 37, 38, 39, 40, 41, 42, 43, 44] (by decide +kernel) (by decide +kernel)
set_option maxRecDepth 20000 in
theorem gX3_lift_X3_isPiece : GoodIn wsX3_lift (wsV RX3 76 RX3 yX3_isPiece wsX3_isPiece) := goodIn_app (goodIn_of _ (by decide +kernel)) ggX3_lift_X3_isPiece
set_option maxRecDepth 20000 in
theorem ggX3_lift_X3_in : GoodIn wsX3_lift wsX3_in := goodIn_r _ [12] (by decide +kernel) (by decide +kernel)
set_option maxRecDepth 20000 in
theorem gX3_lift_X3_in : GoodIn wsX3_lift (va_wsS RX3 66 yX3_in wsX3_in) := goodIn_app (goodIn_of _ (by decide +kernel)) ggX3_lift_X3_in
set_option maxRecDepth 20000 in
theorem ggX3_lift_X3_link : GoodIn wsX3_lift wsX3_link := goodIn_r _ [16, 17, 2, 18, 19, 20, 21, 22, 23, 24, 25, 26, 27, 28, 29, 30, 31, 32, 33, 34, 35, 36, 37, 38, 39, 40, 41, 42, 43, 44] (by decide +kernel) (by decide +kernel)
set_option maxRecDepth 20000 in
theorem gX3_lift_X3_link : GoodIn wsX3_lift (wsV RX3 80 RX3 yX3_link wsX3_link) := goodIn_app (goodIn_of _ (by decide +kernel)) ggX3_lift_X3_link
theorem dX3_lift_0 : decode cX3_lift 0 = .ok (.aload_n 0, 1) := by decide +kernel
theorem dX3_lift_1 : decode cX3_lift 1 = .ok (.iload_n 1, 1) := by decide +kernel
theorem dX3_lift_2 : decode cX3_lift 2 = .ok (.invokevirtual 76, 3) := by decide +kernel
theorem dX3_lift_5 : decode cX3_lift 5 = .ok (.ifCond .eq 25, 3) := by decide +kernel
theorem dX3_lift_8 : decode cX3_lift 8 = .ok (.aload_n 0, 1) := by decide +kernel
theorem dX3_lift_9 : decode cX3_lift 9 = .ok (.iload_n 2, 1) := by decide +kernel
theorem dX3_lift_10 : decode cX3_lift 10 = .ok (.invokevirtual 76, 3) := by decide +kernel
theorem dX3_lift_13 : decode cX3_lift 13 = .ok (.ifCond .eq 17, 3) := by decide +kernel
theorem dX3_lift_16 : decode cX3_lift 16 = .ok (.iload_n 3, 1) := by decide +kernel
theorem dX3_lift_17 : decode cX3_lift 17 = .ok (.iconst 0, 1) := by decide +kernel
theorem dX3_lift_18 : decode cX3_lift 18 = .ok (.bipush 100, 2) := by decide +kernel
theorem dX3_lift_20 : decode cX3_lift 20 = .ok (.invokestatic 66, 3) := by decide +kernel
theorem dX3_lift_23 : decode cX3_lift 23 = .ok (.ifCond .eq 7, 3) := by decide +kernel
theorem dX3_lift_26 : decode cX3_lift 26 = .ok (.iconst 1, 1) := by decide +kernel
theorem dX3_lift_27 : decode cX3_lift 27 = .ok (.goto 4, 3) := by decide +kernel
theorem dX3_lift_30 : decode cX3_lift 30 = .ok (.iconst 0, 1) := by decide +kernel
theorem dX3_lift_31 : decode cX3_lift 31 = .ok (.istore 4, 2) := by decide +kernel
theorem dX3_lift_33 : decode cX3_lift 33 = .ok (.iload 4, 2) := by decide +kernel
theorem dX3_lift_35 : decode cX3_lift 35 = .ok (.ifCond .eq 25, 3) := by decide +kernel
theorem dX3_lift_38 : decode cX3_lift 38 = .ok (.aload_n 0, 1) := by decide +kernel
theorem dX3_lift_39 : decode cX3_lift 39 = .ok (.getfield 7, 3) := by decide +kernel
theorem dX3_lift_42 : decode cX3_lift 42 = .ok (.iload_n 1, 1) := by decide +kernel
