theorem dX3_maySet_128 : decode cX3_maySet 128 = .ok (.if_icmp .ne 7, 3) := by decide +kernel
theorem dX3_maySet_131 : decode cX3_maySet 131 = .ok (.iconst 1, 1) := by decide +kernel
theorem dX3_maySet_132 : decode cX3_maySet 132 = .ok (.goto 4, 3) := by decide +kernel
theorem dX3_maySet_135 : decode cX3_maySet 135 = .ok (.iconst 0, 1) := by decide +kernel
theorem dX3_maySet_136 : decode cX3_maySet 136 = .ok (.istore 11, 2) := by decide +kernel
theorem dX3_maySet_138 : decode cX3_maySet 138 = .ok (.iconst 0, 1) := by decide +kernel
theorem dX3_maySet_139 : decode cX3_maySet 139 = .ok (.istore 12, 2) := by decide +kernel
theorem dX3_maySet_141 : decode cX3_maySet 141 = .ok (.iload 12, 2) := by decide +kernel
theorem dX3_maySet_143 : decode cX3_maySet 143 = .ok (.iload_n 3, 1) := by decide +kernel
theorem dX3_maySet_144 : decode cX3_maySet 144 = .ok (.if_icmp .ge 50, 3) := by decide +kernel
theorem dX3_maySet_147 : decode cX3_maySet 147 = .ok (.iload 11, 2) := by decide +kernel
theorem dX3_maySet_149 : decode cX3_maySet 149 = .ok (.ifCond .ne 32, 3) := by decide +kernel
theorem dX3_maySet_152 : decode cX3_maySet 152 = .ok (.aload_n 0, 1) := by decide +kernel
theorem dX3_maySet_153 : decode cX3_maySet 153 = .ok (.aload_n 0, 1) := by decide +kernel
theorem dX3_maySet_154 : decode cX3_maySet 154 = .ok (.getfield 56, 3) := by decide +kernel
theorem dX3_maySet_157 : decode cX3_maySet 157 = .ok (.iload 12, 2) := by decide +kernel
theorem dX3_maySet_159 : decode cX3_maySet 159 = .ok (.iaload, 1) := by decide +kernel
theorem dX3_maySet_160 : decode cX3_maySet 160 = .ok (.iconst 2, 1) := by decide +kernel
theorem dX3_maySet_161 : decode cX3_maySet 161 = .ok (.idiv, 1) := by decide +kernel
theorem dX3_maySet_162 : decode cX3_maySet 162 = .ok (.aload_n 0, 1) := by decide +kernel
theorem dX3_maySet_163 : decode cX3_maySet 163 = .ok (.getfield 56, 3) := by decide +kernel
theorem dX3_maySet_166 : decode cX3_maySet 166 = .ok (.iload 12, 2) := by decide +kernel
theorem dX3_maySet_168 : decode cX3_maySet 168 = .ok (.iaload, 1) := by decide +kernel
theorem dX3_maySet_169 : decode cX3_maySet 169 = .ok (.iconst 2, 1) := by decide +kernel
theorem dX3_maySet_170 : decode cX3_maySet 170 = .ok (.irem, 1) := by decide +kernel
theorem dX3_maySet_171 : decode cX3_maySet 171 = .ok (.invokevirtual 95, 3) := by decide +kernel
theorem dX3_maySet_174 : decode cX3_maySet 174 = .ok (.iconst 2, 1) := by decide +kernel
theorem dX3_maySet_175 : decode cX3_maySet 175 = .ok (.idiv, 1) := by decide +kernel
theorem dX3_maySet_176 : decode cX3_maySet 176 = .ok (.iload 10, 2) := by decide +kernel
theorem dX3_maySet_178 : decode cX3_maySet 178 = .ok (.if_icmp .ne 7, 3) := by decide +kernel
theorem dX3_maySet_181 : decode cX3_maySet 181 = .ok (.iconst 1, 1) := by decide +kernel
theorem dX3_maySet_182 : decode cX3_maySet 182 = .ok (.goto 4, 3) := by decide +kernel
theorem dX3_maySet_185 : decode cX3_maySet 185 = .ok (.iconst 0, 1) := by decide +kernel
theorem dX3_maySet_186 : decode cX3_maySet 186 = .ok (.istore 11, 2) := by decide +kernel
theorem dX3_maySet_188 : decode cX3_maySet 188 = .ok (.iinc 12 1, 3) := by decide +kernel
theorem dX3_maySet_191 : decode cX3_maySet 191 = .ok (.goto (-50), 3) := by decide +kernel
theorem dX3_maySet_194 : decode cX3_maySet 194 = .ok (.iload 9, 2) := by decide +kernel
theorem dX3_maySet_196 : decode cX3_maySet 196 = .ok (.ifCond .eq 12, 3) := by decide +kernel
theorem dX3_maySet_199 : decode cX3_maySet 199 = .ok (.iload 11, 2) := by decide +kernel
theorem dX3_maySet_201 : decode cX3_maySet 201 = .ok (.ifCond .ne 7, 3) := by decide +kernel
theorem dX3_maySet_204 : decode cX3_maySet 204 = .ok (.iconst 1, 1) := by decide +kernel
theorem dX3_maySet_205 : decode cX3_maySet 205 = .ok (.goto 4, 3) := by decide +kernel
theorem dX3_maySet_208 : decode cX3_maySet 208 = .ok (.iconst 0, 1) := by decide +kernel
theorem dX3_maySet_209 : decode cX3_maySet 209 = .ok (.ireturn, 1) := by decide +kernel
set_option maxRecDepth 20000 in
theorem ggX3_plain_X3_isDrive : GoodIn wsX3_plain wsX3_isDrive := goodIn_r _ [8, 9, 10, 11, 7, 12, 13, 14, 15, 16, 17, 46, 47, 48, 49, 50, 51, 52, 53, 54, 55, 56, 57, 58, 59, 60, 61, 62, 63, 64, 65, 66, 67, 68, 69] (by decide +kernel) (by decide +kernel)
set_option maxRecDepth 20000 in
theorem gX3_plain_X3_isDrive : GoodIn wsX3_plain (wsV RX3 123 RX3 yX3_isDrive wsX3_isDrive) := goodIn_app (goodIn_of _ (by decide +kernel)) ggX3_plain_X3_isDrive
set_option maxRecDepth 20000 in
theorem ggX3_plain_X3_in : GoodIn wsX3_plain wsX3_in := goodIn_r _ [12] (by decide +kernel) (by decide +kernel)
set_option maxRecDepth 20000 in
theorem gX3_plain_X3_in : GoodIn wsX3_plain (va_wsS RX3 66 yX3_in wsX3_in) := goodIn_app (goodIn_of _ (by decide +kernel)) ggX3_plain_X3_in
set_option maxRecDepth 20000 in
theorem ggX3_plain_X3_maySet : GoodIn wsX3_plain wsX3_maySet := goodIn_r _ [21, 22, 2, 23, 24, 25, 7, 26, 27, 28, 29, 30, 31, 32, 33, 34, 35, 36, 37, 38, 39, 40, 41, 42, 43, 44, 45, 46, 47, 48, 49, 50, 51, 52, 53, 54, 55, 56, 57, 58, 59, 60, 61, 62, 63, 64, 65, 66, 67, 68, 69] (by decide +kernel) (by decide +kernel)
set_option maxRecDepth 20000 in
theorem gX3_plain_X3_maySet : GoodIn wsX3_plain (wsV RX3 144 RX3 yX3_maySet wsX3_maySet) := goodIn_app (goodIn_of _ (by decide +kernel)) ggX3_plain_X3_maySet
set_option maxRecDepth 20000 in
theorem ggX3_plain_X3_to : GoodIn wsX3_plain wsX3_to := goodIn_r _ [31, 32, 33, 46, 47, 48, 49, 50, 51, 52, 53, 54, 55, 56, 57, 58, 59, 60, 61, 62, 63, 64, 65, 66, 67, 68, 69] (by decide +kernel) (by decide +kernel)
set_option maxRecDepth 20000 in
theorem gX3_plain_X3_to : GoodIn wsX3_plain (wsV RX3 95 RX3 yX3_to wsX3_to) := goodIn_app (goodIn_of _ (by decide +kernel)) ggX3_plain_X3_to
theorem dX3_plain_0 : decode cX3_plain 0 = .ok (.aload_n 0, 1) := by decide +kernel
theorem dX3_plain_1 : decode cX3_plain 1 = .ok (.aload_n 0, 1) := by decide +kernel
theorem dX3_plain_2 : decode cX3_plain 2 = .ok (.iload_n 1, 1) := by decide +kernel
theorem dX3_plain_3 : decode cX3_plain 3 = .ok (.iload_n 2, 1) := by decide +kernel
theorem dX3_plain_4 : decode cX3_plain 4 = .ok (.iload_n 3, 1) := by decide +kernel
theorem dX3_plain_5 : decode cX3_plain 5 = .ok (.iload 4, 2) := by decide +kernel
theorem dX3_plain_7 : decode cX3_plain 7 = .ok (.invokevirtual 123, 3) := by decide +kernel
theorem dX3_plain_10 : decode cX3_plain 10 = .ok (.ifCond .eq 17, 3) := by decide +kernel
theorem dX3_plain_13 : decode cX3_plain 13 = .ok (.iload 5, 2) := by decide +kernel
theorem dX3_plain_15 : decode cX3_plain 15 = .ok (.iconst 0, 1) := by decide +kernel
theorem dX3_plain_16 : decode cX3_plain 16 = .ok (.iconst 5, 1) := by decide +kernel
theorem dX3_plain_17 : decode cX3_plain 17 = .ok (.invokestatic 66, 3) := by decide +kernel
theorem dX3_plain_20 : decode cX3_plain 20 = .ok (.ifCond .eq 7, 3) := by decide +kernel
theorem dX3_plain_23 : decode cX3_plain 23 = .ok (.iconst 0, 1) := by decide +kernel
theorem dX3_plain_24 : decode cX3_plain 24 = .ok (.goto 4, 3) := by decide +kernel
theorem dX3_plain_27 : decode cX3_plain 27 = .ok (.iconst 1, 1) := by decide +kernel
theorem dX3_plain_28 : decode cX3_plain 28 = .ok (.putfield 59, 3) := by decide +kernel
theorem dX3_plain_31 : decode cX3_plain 31 = .ok (.aload_n 0, 1) := by decide +kernel
theorem dX3_plain_32 : decode cX3_plain 32 = .ok (.getfield 59, 3) := by decide +kernel
theorem dX3_plain_35 : decode cX3_plain 35 = .ok (.ifCond .gt 8, 3) := by decide +kernel
theorem dX3_plain_38 : decode cX3_plain 38 = .ok (.iload_n 2, 1) := by decide +kernel
theorem dX3_plain_39 : decode cX3_plain 39 = .ok (.iload_n 3, 1) := by decide +kernel
theorem dX3_plain_40 : decode cX3_plain 40 = .ok (.if_icmp .ne 5, 3) := by decide +kernel
theorem dX3_plain_43 : decode cX3_plain 43 = .ok (.iconst 0, 1) := by decide +kernel
theorem dX3_plain_44 : decode cX3_plain 44 = .ok (.ireturn, 1) := by decide +kernel
theorem dX3_plain_45 : decode cX3_plain 45 = .ok (.iconst 0, 1) := by decide +kernel
theorem dX3_plain_46 : decode cX3_plain 46 = .ok (.istore 6, 2) := by decide +kernel
theorem dX3_plain_48 : decode cX3_plain 48 = .ok (.iconst 0, 1) := by decide +kernel
theorem dX3_plain_49 : decode cX3_plain 49 = .ok (.istore 7, 2) := by decide +kernel
theorem dX3_plain_51 : decode cX3_plain 51 = .ok (.aload_n 0, 1) := by decide +kernel
theorem dX3_plain_52 : decode cX3_plain 52 = .ok (.getfield 56, 3) := by decide +kernel
theorem dX3_plain_55 : decode cX3_plain 55 = .ok (.iconst 0, 1) := by decide +kernel
theorem dX3_plain_56 : decode cX3_plain 56 = .ok (.iconst (-1), 1) := by decide +kernel
theorem dX3_plain_57 : decode cX3_plain 57 = .ok (.iastore, 1) := by decide +kernel
theorem dX3_plain_58 : decode cX3_plain 58 = .ok (.iload 7, 2) := by decide +kernel
theorem dX3_plain_60 : decode cX3_plain 60 = .ok (.ifCond .lt 117, 3) := by decide +kernel
theorem dX3_plain_63 : decode cX3_plain 63 = .ok (.aload_n 0, 1) := by decide +kernel
theorem dX3_plain_64 : decode cX3_plain 64 = .ok (.getfield 56, 3) := by decide +kernel
theorem dX3_plain_67 : decode cX3_plain 67 = .ok (.iload 7, 2) := by decide +kernel
theorem dX3_plain_69 : decode cX3_plain 69 = .ok (.iaload, 1) := by decide +kernel
theorem dX3_plain_70 : decode cX3_plain 70 = .ok (.iconst 1, 1) := by decide +kernel
theorem dX3_plain_71 : decode cX3_plain 71 = .ok (.iadd, 1) := by decide +kernel
theorem dX3_plain_72 : decode cX3_plain 72 = .ok (.istore 8, 2) := by decide +kernel
theorem dX3_plain_74 : decode cX3_plain 74 = .ok (.iload 8, 2) := by decide +kernel
theorem dX3_plain_76 : decode cX3_plain 76 = .ok (.iconst 2, 1) := by decide +kernel
theorem dX3_plain_77 : decode cX3_plain 77 = .ok (.aload_n 0, 1) := by decide +kernel
theorem dX3_plain_78 : decode cX3_plain 78 = .ok (.getfield 73, 3) := by decide +kernel
theorem dX3_plain_81 : decode cX3_plain 81 = .ok (.imul, 1) := by decide +kernel
theorem dX3_plain_82 : decode cX3_plain 82 = .ok (.if_icmp .ge 24, 3) := by decide +kernel
theorem dX3_plain_85 : decode cX3_plain 85 = .ok (.aload_n 0, 1) := by decide +kernel
theorem dX3_plain_86 : decode cX3_plain 86 = .ok (.iload_n 1, 1) := by decide +kernel
theorem dX3_plain_87 : decode cX3_plain 87 = .ok (.iload_n 2, 1) := by decide +kernel
theorem dX3_plain_88 : decode cX3_plain 88 = .ok (.iload 7, 2) := by decide +kernel
theorem dX3_plain_90 : decode cX3_plain 90 = .ok (.iload 8, 2) := by decide +kernel
theorem dX3_plain_92 : decode cX3_plain 92 = .ok (.iload 4, 2) := by decide +kernel
theorem dX3_plain_94 : decode cX3_plain 94 = .ok (.invokevirtual 144, 3) := by decide +kernel
theorem dX3_plain_97 : decode cX3_plain 97 = .ok (.ifCond .ne 9, 3) := by decide +kernel
theorem dX3_plain_100 : decode cX3_plain 100 = .ok (.iinc 8 1, 3) := by decide +kernel
theorem dX3_plain_103 : decode cX3_plain 103 = .ok (.goto (-29), 3) := by decide +kernel
theorem dX3_plain_106 : decode cX3_plain 106 = .ok (.aload_n 0, 1) := by decide +kernel
theorem dX3_plain_107 : decode cX3_plain 107 = .ok (.getfield 56, 3) := by decide +kernel
theorem dX3_plain_110 : decode cX3_plain 110 = .ok (.iload 7, 2) := by decide +kernel
theorem dX3_plain_112 : decode cX3_plain 112 = .ok (.iload 8, 2) := by decide +kernel
theorem dX3_plain_114 : decode cX3_plain 114 = .ok (.iastore, 1) := by decide +kernel
theorem dX3_plain_115 : decode cX3_plain 115 = .ok (.iload 8, 2) := by decide +kernel
theorem dX3_plain_117 : decode cX3_plain 117 = .ok (.iconst 2, 1) := by decide +kernel
theorem dX3_plain_118 : decode cX3_plain 118 = .ok (.aload_n 0, 1) := by decide +kernel
theorem dX3_plain_119 : decode cX3_plain 119 = .ok (.getfield 73, 3) := by decide +kernel
theorem dX3_plain_122 : decode cX3_plain 122 = .ok (.imul, 1) := by decide +kernel
theorem dX3_plain_123 : decode cX3_plain 123 = .ok (.if_icmp .ne 9, 3) := by decide +kernel
theorem dX3_plain_126 : decode cX3_plain 126 = .ok (.iinc 7 (-1), 3) := by decide +kernel
theorem dX3_plain_129 : decode cX3_plain 129 = .ok (.goto (-71), 3) := by decide +kernel
theorem dX3_plain_132 : decode cX3_plain 132 = .ok (.aload_n 0, 1) := by decide +kernel
theorem dX3_plain_133 : decode cX3_plain 133 = .ok (.iload 8, 2) := by decide +kernel
theorem dX3_plain_135 : decode cX3_plain 135 = .ok (.iconst 2, 1) := by decide +kernel
theorem dX3_plain_136 : decode cX3_plain 136 = .ok (.idiv, 1) := by decide +kernel
theorem dX3_plain_137 : decode cX3_plain 137 = .ok (.iload 8, 2) := by decide +kernel
theorem dX3_plain_139 : decode cX3_plain 139 = .ok (.iconst 2, 1) := by decide +kernel
theorem dX3_plain_140 : decode cX3_plain 140 = .ok (.irem, 1) := by decide +kernel
theorem dX3_plain_141 : decode cX3_plain 141 = .ok (.invokevirtual 95, 3) := by decide +kernel
theorem dX3_plain_144 : decode cX3_plain 144 = .ok (.iconst 2, 1) := by decide +kernel
theorem dX3_plain_145 : decode cX3_plain 145 = .ok (.idiv, 1) := by decide +kernel
theorem dX3_plain_146 : decode cX3_plain 146 = .ok (.iload_n 3, 1) := by decide +kernel
theorem dX3_plain_147 : decode cX3_plain 147 = .ok (.if_icmp .ne 9, 3) := by decide +kernel
theorem dX3_plain_150 : decode cX3_plain 150 = .ok (.iinc 6 1, 3) := by decide +kernel
theorem dX3_plain_153 : decode cX3_plain 153 = .ok (.goto 21, 3) := by decide +kernel
theorem dX3_plain_156 : decode cX3_plain 156 = .ok (.iload 7, 2) := by decide +kernel
theorem dX3_plain_158 : decode cX3_plain 158 = .ok (.iload 5, 2) := by decide +kernel
theorem dX3_plain_160 : decode cX3_plain 160 = .ok (.if_icmp .ge 14, 3) := by decide +kernel
theorem dX3_plain_163 : decode cX3_plain 163 = .ok (.iinc 7 1, 3) := by decide +kernel
theorem dX3_plain_166 : decode cX3_plain 166 = .ok (.aload_n 0, 1) := by decide +kernel
theorem dX3_plain_167 : decode cX3_plain 167 = .ok (.getfield 56, 3) := by decide +kernel
theorem dX3_plain_170 : decode cX3_plain 170 = .ok (.iload 7, 2) := by decide +kernel
theorem dX3_plain_172 : decode cX3_plain 172 = .ok (.iconst (-1), 1) := by decide +kernel
theorem dX3_plain_173 : decode cX3_plain 173 = .ok (.iastore, 1) := by decide +kernel
theorem dX3_plain_174 : decode cX3_plain 174 = .ok (.goto (-116), 3) := by decide +kernel
theorem dX3_plain_177 : decode cX3_plain 177 = .ok (.iload 6, 2) := by decide +kernel
theorem dX3_plain_179 : decode cX3_plain 179 = .ok (.ireturn, 1) := by decide +kernel
set_option maxRecDepth 20000 in
theorem ggX3_count_X3_bits : GoodIn wsX3_count wsX3_bits := goodIn_r _ [10] (by decide +kernel) (by decide +kernel)
set_option maxRecDepth 20000 in
theorem gX3_count_X3_bits : GoodIn wsX3_count (va_wsS RX3 88 yX3_bits wsX3_bits) := goodIn_app (goodIn_of _ (by decide +kernel)) ggX3_count_X3_bits
theorem dX3_count_0 : decode cX3_count 0 = .ok (.aload_n 0, 1) := by decide +kernel
theorem dX3_count_1 : decode cX3_count 1 = .ok (.iconst 0, 1) := by decide +kernel
theorem dX3_count_2 : decode cX3_count 2 = .ok (.putfield 59, 3) := by decide +kernel
theorem dX3_count_5 : decode cX3_count 5 = .ok (.iload_n 1, 1) := by decide +kernel
theorem dX3_count_6 : decode cX3_count 6 = .ok (.ifCond .ne 8, 3) := by decide +kernel
theorem dX3_count_9 : decode cX3_count 9 = .ok (.aload_n 0, 1) := by decide +kernel
theorem dX3_count_10 : decode cX3_count 10 = .ok (.getfield 63, 3) := by decide +kernel
theorem dX3_count_13 : decode cX3_count 13 = .ok (.ireturn, 1) := by decide +kernel
theorem dX3_count_14 : decode cX3_count 14 = .ok (.iload_n 1, 1) := by decide +kernel
theorem dX3_count_15 : decode cX3_count 15 = .ok (.iconst 1, 1) := by decide +kernel
theorem dX3_count_16 : decode cX3_count 16 = .ok (.if_icmp .ne 8, 3) := by decide +kernel
theorem dX3_count_19 : decode cX3_count 19 = .ok (.aload_n 0, 1) := by decide +kernel
theorem dX3_count_20 : decode cX3_count 20 = .ok (.getfield 73, 3) := by decide +kernel
theorem dX3_count_23 : decode cX3_count 23 = .ok (.ireturn, 1) := by decide +kernel
theorem dX3_count_24 : decode cX3_count 24 = .ok (.iload_n 1, 1) := by decide +kernel
theorem dX3_count_25 : decode cX3_count 25 = .ok (.iconst 2, 1) := by decide +kernel
theorem dX3_count_26 : decode cX3_count 26 = .ok (.if_icmp .ne 8, 3) := by decide +kernel
theorem dX3_count_29 : decode cX3_count 29 = .ok (.aload_n 0, 1) := by decide +kernel
theorem dX3_count_30 : decode cX3_count 30 = .ok (.getfield 92, 3) := by decide +kernel
theorem dX3_count_33 : decode cX3_count 33 = .ok (.ireturn, 1) := by decide +kernel
theorem dX3_count_34 : decode cX3_count 34 = .ok (.iload_n 1, 1) := by decide +kernel
theorem dX3_count_35 : decode cX3_count 35 = .ok (.iconst 3, 1) := by decide +kernel
theorem dX3_count_36 : decode cX3_count 36 = .ok (.if_icmp .ne 8, 3) := by decide +kernel
theorem dX3_count_39 : decode cX3_count 39 = .ok (.aload_n 0, 1) := by decide +kernel
theorem dX3_count_40 : decode cX3_count 40 = .ok (.getfield 138, 3) := by decide +kernel
theorem dX3_count_43 : decode cX3_count 43 = .ok (.ireturn, 1) := by decide +kernel
theorem dX3_count_44 : decode cX3_count 44 = .ok (.iconst 0, 1) := by decide +kernel
theorem dX3_count_45 : decode cX3_count 45 = .ok (.istore_n 2, 1) := by decide +kernel
theorem dX3_count_46 : decode cX3_count 46 = .ok (.iconst 0, 1) := by decide +kernel
theorem dX3_count_47 : decode cX3_count 47 = .ok (.istore_n 3, 1) := by decide +kernel
theorem dX3_count_48 : decode cX3_count 48 = .ok (.iload_n 3, 1) := by decide +kernel
theorem dX3_count_49 : decode cX3_count 49 = .ok (.aload_n 0, 1) := by decide +kernel
theorem dX3_count_50 : decode cX3_count 50 = .ok (.getfield 73, 3) := by decide +kernel
theorem dX3_count_53 : decode cX3_count 53 = .ok (.if_icmp .ge 21, 3) := by decide +kernel
theorem dX3_count_56 : decode cX3_count 56 = .ok (.iload_n 2, 1) := by decide +kernel
theorem dX3_count_57 : decode cX3_count 57 = .ok (.aload_n 0, 1) := by decide +kernel
theorem dX3_count_58 : decode cX3_count 58 = .ok (.getfield 38, 3) := by decide +kernel
theorem dX3_count_61 : decode cX3_count 61 = .ok (.iload_n 3, 1) := by decide +kernel
theorem dX3_count_62 : decode cX3_count 62 = .ok (.iaload, 1) := by decide +kernel
theorem dX3_count_63 : decode cX3_count 63 = .ok (.invokestatic 88, 3) := by decide +kernel
theorem dX3_count_66 : decode cX3_count 66 = .ok (.iadd, 1) := by decide +kernel
theorem dX3_count_67 : decode cX3_count 67 = .ok (.istore_n 2, 1) := by decide +kernel
theorem dX3_count_68 : decode cX3_count 68 = .ok (.iinc 3 1, 3) := by decide +kernel
theorem dX3_count_71 : decode cX3_count 71 = .ok (.goto (-23), 3) := by decide +kernel
theorem dX3_count_74 : decode cX3_count 74 = .ok (.iload_n 1, 1) := by decide +kernel
theorem dX3_count_75 : decode cX3_count 75 = .ok (.iconst 4, 1) := by decide +kernel
theorem dX3_count_76 : decode cX3_count 76 = .ok (.if_icmp .ne 7, 3) := by decide +kernel
theorem dX3_count_79 : decode cX3_count 79 = .ok (.iload_n 2, 1) := by decide +kernel
theorem dX3_count_80 : decode cX3_count 80 = .ok (.goto 4, 3) := by decide +kernel
theorem dX3_count_83 : decode cX3_count 83 = .ok (.iconst (-1), 1) := by decide +kernel
theorem dX3_count_84 : decode cX3_count 84 = .ok (.ireturn, 1) := by decide +kernel
theorem dJx00060_init_a7421_0 : decode cJx00060_init_a7421 0 = .ok (.aload_n 0, 1) := by decide +kernel
theorem dJx00060_init_a7421_1 : decode cJx00060_init_a7421 1 = .ok (.aload_n 1, 1) := by decide +kernel
theorem dJx00060_init_a7421_2 : decode cJx00060_init_a7421 2 = .ok (.invokespecial 7, 3) := by decide +kernel
theorem dJx00060_init_a7421_5 : decode cJx00060_init_a7421 5 = .ok (.return_, 1) := by decide +kernel
theorem dJ6_bitCount_0f7a4_0 : decode cJ6_bitCount_0f7a4 0 = .ok (.iload_n 0, 1) := by decide +kernel
theorem dJ6_bitCount_0f7a4_1 : decode cJ6_bitCount_0f7a4 1 = .ok (.iload_n 0, 1) := by decide +kernel
theorem dJ6_bitCount_0f7a4_2 : decode cJ6_bitCount_0f7a4 2 = .ok (.iconst 1, 1) := by decide +kernel
theorem dJ6_bitCount_0f7a4_3 : decode cJ6_bitCount_0f7a4 3 = .ok (.iushr, 1) := by decide +kernel
theorem dJ6_bitCount_0f7a4_4 : decode cJ6_bitCount_0f7a4 4 = .ok (.ldc_w 265, 3) := by decide +kernel
theorem dJ6_bitCount_0f7a4_7 : decode cJ6_bitCount_0f7a4 7 = .ok (.iand, 1) := by decide +kernel
theorem dJ6_bitCount_0f7a4_8 : decode cJ6_bitCount_0f7a4 8 = .ok (.isub, 1) := by decide +kernel
theorem dJ6_bitCount_0f7a4_9 : decode cJ6_bitCount_0f7a4 9 = .ok (.istore_n 0, 1) := by decide +kernel
theorem dJ6_bitCount_0f7a4_10 : decode cJ6_bitCount_0f7a4 10 = .ok (.iload_n 0, 1) := by decide +kernel
theorem dJ6_bitCount_0f7a4_11 : decode cJ6_bitCount_0f7a4 11 = .ok (.ldc_w 266, 3) := by decide +kernel
theorem dJ6_bitCount_0f7a4_14 : decode cJ6_bitCount_0f7a4 14 = .ok (.iand, 1) := by decide +kernel
theorem dJ6_bitCount_0f7a4_15 : decode cJ6_bitCount_0f7a4 15 = .ok (.iload_n 0, 1) := by decide +kernel
theorem dJ6_bitCount_0f7a4_16 : decode cJ6_bitCount_0f7a4 16 = .ok (.iconst 2, 1) := by decide +kernel
theorem dJ6_bitCount_0f7a4_17 : decode cJ6_bitCount_0f7a4 17 = .ok (.iushr, 1) := by decide +kernel
theorem dJ6_bitCount_0f7a4_18 : decode cJ6_bitCount_0f7a4 18 = .ok (.ldc_w 266, 3) := by decide +kernel
theorem dJ6_bitCount_0f7a4_21 : decode cJ6_bitCount_0f7a4 21 = .ok (.iand, 1) := by decide +kernel
theorem dJ6_bitCount_0f7a4_22 : decode cJ6_bitCount_0f7a4 22 = .ok (.iadd, 1) := by decide +kernel
theorem dJ6_bitCount_0f7a4_23 : decode cJ6_bitCount_0f7a4 23 = .ok (.istore_n 0, 1) := by decide +kernel
theorem dJ6_bitCount_0f7a4_24 : decode cJ6_bitCount_0f7a4 24 = .ok (.iload_n 0, 1) := by decide +kernel
theorem dJ6_bitCount_0f7a4_25 : decode cJ6_bitCount_0f7a4 25 = .ok (.iload_n 0, 1) := by decide +kernel
theorem dJ6_bitCount_0f7a4_26 : decode cJ6_bitCount_0f7a4 26 = .ok (.iconst 4, 1) := by decide +kernel
theorem dJ6_bitCount_0f7a4_27 : decode cJ6_bitCount_0f7a4 27 = .ok (.iushr, 1) := by decide +kernel
theorem dJ6_bitCount_0f7a4_28 : decode cJ6_bitCount_0f7a4 28 = .ok (.iadd, 1) := by decide +kernel
theorem dJ6_bitCount_0f7a4_29 : decode cJ6_bitCount_0f7a4 29 = .ok (.ldc_w 267, 3) := by decide +kernel
theorem dJ6_bitCount_0f7a4_32 : decode cJ6_bitCount_0f7a4 32 = .ok (.iand, 1) := by decide +kernel
theorem dJ6_bitCount_0f7a4_33 : decode cJ6_bitCount_0f7a4 33 = .ok (.istore_n 0, 1) := by decide +kernel
theorem dJ6_bitCount_0f7a4_34 : decode cJ6_bitCount_0f7a4 34 = .ok (.iload_n 0, 1) := by decide +kernel
theorem dJ6_bitCount_0f7a4_35 : decode cJ6_bitCount_0f7a4 35 = .ok (.iload_n 0, 1) := by decide +kernel
theorem dJ6_bitCount_0f7a4_36 : decode cJ6_bitCount_0f7a4 36 = .ok (.bipush 8, 2) := by decide +kernel
theorem dJ6_bitCount_0f7a4_38 : decode cJ6_bitCount_0f7a4 38 = .ok (.iushr, 1) := by decide +kernel
theorem dJ6_bitCount_0f7a4_39 : decode cJ6_bitCount_0f7a4 39 = .ok (.iadd, 1) := by decide +kernel
theorem dJ6_bitCount_0f7a4_40 : decode cJ6_bitCount_0f7a4 40 = .ok (.istore_n 0, 1) := by decide +kernel
theorem dJ6_bitCount_0f7a4_41 : decode cJ6_bitCount_0f7a4 41 = .ok (.iload_n 0, 1) := by decide +kernel
theorem dJ6_bitCount_0f7a4_42 : decode cJ6_bitCount_0f7a4 42 = .ok (.iload_n 0, 1) := by decide +kernel
theorem dJ6_bitCount_0f7a4_43 : decode cJ6_bitCount_0f7a4 43 = .ok (.bipush 16, 2) := by decide +kernel
theorem dJ6_bitCount_0f7a4_45 : decode cJ6_bitCount_0f7a4 45 = .ok (.iushr, 1) := by decide +kernel
theorem dJ6_bitCount_0f7a4_46 : decode cJ6_bitCount_0f7a4 46 = .ok (.iadd, 1) := by decide +kernel
theorem dJ6_bitCount_0f7a4_47 : decode cJ6_bitCount_0f7a4 47 = .ok (.istore_n 0, 1) := by decide +kernel
theorem dJ6_bitCount_0f7a4_48 : decode cJ6_bitCount_0f7a4 48 = .ok (.iload_n 0, 1) := by decide +kernel
theorem dJ6_bitCount_0f7a4_49 : decode cJ6_bitCount_0f7a4 49 = .ok (.bipush 63, 2) := by decide +kernel
theorem dJ6_bitCount_0f7a4_51 : decode cJ6_bitCount_0f7a4 51 = .ok (.iand, 1) := by decide +kernel
theorem dJ6_bitCount_0f7a4_52 : decode cJ6_bitCount_0f7a4 52 = .ok (.ireturn, 1) := by decide +kernel
theorem dJ7_fill_53178_0 : decode cJ7_fill_53178 0 = .ok (.iconst 0, 1) := by decide +kernel
theorem dJ7_fill_53178_1 : decode cJ7_fill_53178 1 = .ok (.istore_n 2, 1) := by decide +kernel
theorem dJ7_fill_53178_2 : decode cJ7_fill_53178 2 = .ok (.aload_n 0, 1) := by decide +kernel
theorem dJ7_fill_53178_3 : decode cJ7_fill_53178 3 = .ok (.arraylength, 1) := by decide +kernel
theorem dJ7_fill_53178_4 : decode cJ7_fill_53178 4 = .ok (.istore_n 3, 1) := by decide +kernel
theorem dJ7_fill_53178_5 : decode cJ7_fill_53178 5 = .ok (.iload_n 2, 1) := by decide +kernel
theorem dJ7_fill_53178_6 : decode cJ7_fill_53178 6 = .ok (.iload_n 3, 1) := by decide +kernel
theorem dJ7_fill_53178_7 : decode cJ7_fill_53178 7 = .ok (.if_icmp .ge 13, 3) := by decide +kernel
theorem dJ7_fill_53178_10 : decode cJ7_fill_53178 10 = .ok (.aload_n 0, 1) := by decide +kernel
theorem dJ7_fill_53178_11 : decode cJ7_fill_53178 11 = .ok (.iload_n 2, 1) := by decide +kernel
theorem dJ7_fill_53178_12 : decode cJ7_fill_53178 12 = .ok (.iload_n 1, 1) := by decide +kernel
theorem dJ7_fill_53178_13 : decode cJ7_fill_53178 13 = .ok (.iastore, 1) := by decide +kernel
theorem dJ7_fill_53178_14 : decode cJ7_fill_53178 14 = .ok (.iinc 2 1, 3) := by decide +kernel
theorem dJ7_fill_53178_17 : decode cJ7_fill_53178 17 = .ok (.goto (-12), 3) := by decide +kernel
theorem dJ7_fill_53178_20 : decode cJ7_fill_53178 20 = .ok (.return_, 1) := by decide +kernel
