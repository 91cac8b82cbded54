theorem dX7_cancel_188 : decode cX7_cancel 188 = .ok (.goto (-93), 3) := by decide +kernel
theorem dX7_cancel_191 : decode cX7_cancel 191 = .ok (.aload_n 0, 1) := by decide +kernel
theorem dX7_cancel_192 : decode cX7_cancel 192 = .ok (.getfield 36, 3) := by decide +kernel
theorem dX7_cancel_195 : decode cX7_cancel 195 = .ok (.iload 4, 2) := by decide +kernel
theorem dX7_cancel_197 : decode cX7_cancel 197 = .ok (.iload 5, 2) := by decide +kernel
theorem dX7_cancel_199 : decode cX7_cancel 199 = .ok (.iastore, 1) := by decide +kernel
theorem dX7_cancel_200 : decode cX7_cancel 200 = .ok (.aload_n 0, 1) := by decide +kernel
theorem dX7_cancel_201 : decode cX7_cancel 201 = .ok (.getfield 66, 3) := by decide +kernel
theorem dX7_cancel_204 : decode cX7_cancel 204 = .ok (.iload_n 1, 1) := by decide +kernel
theorem dX7_cancel_205 : decode cX7_cancel 205 = .ok (.iconst 4, 1) := by decide +kernel
theorem dX7_cancel_206 : decode cX7_cancel 206 = .ok (.iastore, 1) := by decide +kernel
theorem dX7_cancel_207 : decode cX7_cancel 207 = .ok (.iload_n 3, 1) := by decide +kernel
theorem dX7_cancel_208 : decode cX7_cancel 208 = .ok (.ireturn, 1) := by decide +kernel
theorem dX7_ratingOf_0 : decode cX7_ratingOf 0 = .ok (.aload_n 0, 1) := by decide +kernel
theorem dX7_ratingOf_1 : decode cX7_ratingOf 1 = .ok (.getfield 51, 3) := by decide +kernel
theorem dX7_ratingOf_4 : decode cX7_ratingOf 4 = .ok (.iload_n 1, 1) := by decide +kernel
theorem dX7_ratingOf_5 : decode cX7_ratingOf 5 = .ok (.iaload, 1) := by decide +kernel
theorem dX7_ratingOf_6 : decode cX7_ratingOf 6 = .ok (.bipush 10, 2) := by decide +kernel
theorem dX7_ratingOf_8 : decode cX7_ratingOf 8 = .ok (.if_icmp .ge 12, 3) := by decide +kernel
theorem dX7_ratingOf_11 : decode cX7_ratingOf 11 = .ok (.aload_n 0, 1) := by decide +kernel
theorem dX7_ratingOf_12 : decode cX7_ratingOf 12 = .ok (.getfield 51, 3) := by decide +kernel
theorem dX7_ratingOf_15 : decode cX7_ratingOf 15 = .ok (.iload_n 1, 1) := by decide +kernel
theorem dX7_ratingOf_16 : decode cX7_ratingOf 16 = .ok (.iaload, 1) := by decide +kernel
theorem dX7_ratingOf_17 : decode cX7_ratingOf 17 = .ok (.goto 5, 3) := by decide +kernel
theorem dX7_ratingOf_20 : decode cX7_ratingOf 20 = .ok (.bipush 10, 2) := by decide +kernel
theorem dX7_ratingOf_22 : decode cX7_ratingOf 22 = .ok (.istore_n 2, 1) := by decide +kernel
theorem dX7_ratingOf_23 : decode cX7_ratingOf 23 = .ok (.iconst 0, 1) := by decide +kernel
theorem dX7_ratingOf_24 : decode cX7_ratingOf 24 = .ok (.istore_n 3, 1) := by decide +kernel
theorem dX7_ratingOf_25 : decode cX7_ratingOf 25 = .ok (.iconst 0, 1) := by decide +kernel
theorem dX7_ratingOf_26 : decode cX7_ratingOf 26 = .ok (.istore 4, 2) := by decide +kernel
theorem dX7_ratingOf_28 : decode cX7_ratingOf 28 = .ok (.iload 4, 2) := by decide +kernel
theorem dX7_ratingOf_30 : decode cX7_ratingOf 30 = .ok (.iload_n 2, 1) := by decide +kernel
theorem dX7_ratingOf_31 : decode cX7_ratingOf 31 = .ok (.if_icmp .ge 24, 3) := by decide +kernel
theorem dX7_ratingOf_34 : decode cX7_ratingOf 34 = .ok (.iload_n 3, 1) := by decide +kernel
theorem dX7_ratingOf_35 : decode cX7_ratingOf 35 = .ok (.aload_n 0, 1) := by decide +kernel
theorem dX7_ratingOf_36 : decode cX7_ratingOf 36 = .ok (.getfield 54, 3) := by decide +kernel
theorem dX7_ratingOf_39 : decode cX7_ratingOf 39 = .ok (.bipush 10, 2) := by decide +kernel
theorem dX7_ratingOf_41 : decode cX7_ratingOf 41 = .ok (.iload_n 1, 1) := by decide +kernel
theorem dX7_ratingOf_42 : decode cX7_ratingOf 42 = .ok (.imul, 1) := by decide +kernel
theorem dX7_ratingOf_43 : decode cX7_ratingOf 43 = .ok (.iload 4, 2) := by decide +kernel
theorem dX7_ratingOf_45 : decode cX7_ratingOf 45 = .ok (.iadd, 1) := by decide +kernel
theorem dX7_ratingOf_46 : decode cX7_ratingOf 46 = .ok (.iaload, 1) := by decide +kernel
theorem dX7_ratingOf_47 : decode cX7_ratingOf 47 = .ok (.iadd, 1) := by decide +kernel
theorem dX7_ratingOf_48 : decode cX7_ratingOf 48 = .ok (.istore_n 3, 1) := by decide +kernel
theorem dX7_ratingOf_49 : decode cX7_ratingOf 49 = .ok (.iinc 4 1, 3) := by decide +kernel
theorem dX7_ratingOf_52 : decode cX7_ratingOf 52 = .ok (.goto (-24), 3) := by decide +kernel
theorem dX7_ratingOf_55 : decode cX7_ratingOf 55 = .ok (.iload_n 2, 1) := by decide +kernel
theorem dX7_ratingOf_56 : decode cX7_ratingOf 56 = .ok (.ifCond .ne 9, 3) := by decide +kernel
theorem dX7_ratingOf_59 : decode cX7_ratingOf 59 = .ok (.sipush 500, 3) := by decide +kernel
theorem dX7_ratingOf_62 : decode cX7_ratingOf 62 = .ok (.goto 9, 3) := by decide +kernel
theorem dX7_ratingOf_65 : decode cX7_ratingOf 65 = .ok (.bipush 100, 2) := by decide +kernel
theorem dX7_ratingOf_67 : decode cX7_ratingOf 67 = .ok (.iload_n 3, 1) := by decide +kernel
theorem dX7_ratingOf_68 : decode cX7_ratingOf 68 = .ok (.imul, 1) := by decide +kernel
theorem dX7_ratingOf_69 : decode cX7_ratingOf 69 = .ok (.iload_n 2, 1) := by decide +kernel
theorem dX7_ratingOf_70 : decode cX7_ratingOf 70 = .ok (.idiv, 1) := by decide +kernel
theorem dX7_ratingOf_71 : decode cX7_ratingOf 71 = .ok (.ireturn, 1) := by decide +kernel
set_option maxRecDepth 20000 in
theorem ggX7_rate_X7_isRequest : GoodIn wsX7_rate wsX7_isRequest := goodIn_r _ [11, 12, 13, 14, 10, 15, 37, 38, 39, 40, 41, 42, 43, 44, 45, 46, 47, 48, 49, 50, 51, 52, 53, 54, 55, 56, 57, 58, 59, 60, 61, 62, 63, 64, 65, 66, 67, 68, 69, 70, 71, 72, 73, 74, 75, 76, 77, 78] (by decide +kernel) (by decide +kernel)
set_option maxRecDepth 20000 in
theorem gX7_rate_X7_isRequest : GoodIn wsX7_rate (wsV RX7 178 RX7 yX7_isRequest wsX7_isRequest) := goodIn_app (goodIn_of _ (by decide +kernel)) ggX7_rate_X7_isRequest
set_option maxRecDepth 20000 in
theorem ggX7_rate_X7_in : GoodIn wsX7_rate wsX7_in := goodIn_r _ [15] (by decide +kernel) (by decide +kernel)
set_option maxRecDepth 20000 in
theorem gX7_rate_X7_in : GoodIn wsX7_rate (va_wsS RX7 123 yX7_in wsX7_in) := goodIn_app (goodIn_of _ (by decide +kernel)) ggX7_rate_X7_in
set_option maxRecDepth 20000 in
theorem ggX7_rate_X7_refused : GoodIn wsX7_rate wsX7_refused := goodIn_r _ [19, 20, 37, 38, 39, 40, 41, 42, 43, 44, 45, 46, 47, 48, 49, 50, 51, 52, 53, 54, 55, 56, 57, 58, 59, 60, 61, 62, 63, 64, 65, 66, 67, 68, 69, 70, 71, 72, 73, 74, 75, 76, 77, 78] (by decide +kernel) (by decide +kernel)
set_option maxRecDepth 20000 in
theorem gX7_rate_X7_refused : GoodIn wsX7_rate (wsV RX7 141 RX7 yX7_refused wsX7_refused) := goodIn_app (goodIn_of _ (by decide +kernel)) ggX7_rate_X7_refused
set_option maxRecDepth 20000 in
theorem ggX7_rate_X7_ratingOf : GoodIn wsX7_rate wsX7_ratingOf := goodIn_r _ [24, 5, 4, 37, 38, 39, 40, 41, 42, 43, 44, 45, 46, 47, 48, 49, 50, 51, 52, 53, 54, 55, 56, 57, 58, 59, 60, 61, 62, 63, 64, 65, 66, 67, 68, 69, 70, 71, 72, 73, 74, 75, 76, 77, 78] (by decide +kernel) (by decide +kernel)
set_option maxRecDepth 20000 in
theorem gX7_rate_X7_ratingOf : GoodIn wsX7_rate (wsV RX7 181 RX7 yX7_ratingOf wsX7_ratingOf) := goodIn_app (goodIn_of _ (by decide +kernel)) ggX7_rate_X7_ratingOf
set_option maxRecDepth 20000 in
theorem ggX7_rate_X7_becomesFree : GoodIn wsX7_rate wsX7_becomesFree := goodIn_r _ [28, 29, 30, 31, 32, 33, 10, 34, 35, 36, 6, 37, 38, 39, 40, 41, 42, 43, 44, 45, 46, 47, 48, 49, 50, 51, 52, 53, 54, 55, 56, 57, 58, 59, 60, 61, 62, 63, 64, 65, 66, 67, 68, 69, 70, 71, 72, 73, 74, 75, 76, 77, 78] (by decide +kernel) (by decide +kernel)
set_option maxRecDepth 20000 in
theorem gX7_rate_X7_becomesFree : GoodIn wsX7_rate (wsV RX7 154 RX7 yX7_becomesFree wsX7_becomesFree) := goodIn_app (goodIn_of _ (by decide +kernel)) ggX7_rate_X7_becomesFree
theorem dX7_rate_0 : decode cX7_rate 0 = .ok (.aload_n 0, 1) := by decide +kernel
theorem dX7_rate_1 : decode cX7_rate 1 = .ok (.iload_n 1, 1) := by decide +kernel
theorem dX7_rate_2 : decode cX7_rate 2 = .ok (.invokevirtual 178, 3) := by decide +kernel
theorem dX7_rate_5 : decode cX7_rate 5 = .ok (.istore_n 3, 1) := by decide +kernel
theorem dX7_rate_6 : decode cX7_rate 6 = .ok (.iload_n 2, 1) := by decide +kernel
theorem dX7_rate_7 : decode cX7_rate 7 = .ok (.iconst 1, 1) := by decide +kernel
theorem dX7_rate_8 : decode cX7_rate 8 = .ok (.iconst 5, 1) := by decide +kernel
theorem dX7_rate_9 : decode cX7_rate 9 = .ok (.invokestatic 123, 3) := by decide +kernel
theorem dX7_rate_12 : decode cX7_rate 12 = .ok (.istore 4, 2) := by decide +kernel
theorem dX7_rate_14 : decode cX7_rate 14 = .ok (.aload_n 0, 1) := by decide +kernel
theorem dX7_rate_15 : decode cX7_rate 15 = .ok (.iload_n 3, 1) := by decide +kernel
theorem dX7_rate_16 : decode cX7_rate 16 = .ok (.ifCond .ne 7, 3) := by decide +kernel
theorem dX7_rate_19 : decode cX7_rate 19 = .ok (.iconst 1, 1) := by decide +kernel
theorem dX7_rate_20 : decode cX7_rate 20 = .ok (.goto 36, 3) := by decide +kernel
theorem dX7_rate_23 : decode cX7_rate 23 = .ok (.iload 4, 2) := by decide +kernel
theorem dX7_rate_25 : decode cX7_rate 25 = .ok (.ifCond .ne 7, 3) := by decide +kernel
theorem dX7_rate_28 : decode cX7_rate 28 = .ok (.iconst 2, 1) := by decide +kernel
theorem dX7_rate_29 : decode cX7_rate 29 = .ok (.goto 27, 3) := by decide +kernel
theorem dX7_rate_32 : decode cX7_rate 32 = .ok (.aload_n 0, 1) := by decide +kernel
theorem dX7_rate_33 : decode cX7_rate 33 = .ok (.getfield 66, 3) := by decide +kernel
theorem dX7_rate_36 : decode cX7_rate 36 = .ok (.iload_n 1, 1) := by decide +kernel
theorem dX7_rate_37 : decode cX7_rate 37 = .ok (.iaload, 1) := by decide +kernel
theorem dX7_rate_38 : decode cX7_rate 38 = .ok (.iconst 3, 1) := by decide +kernel
theorem dX7_rate_39 : decode cX7_rate 39 = .ok (.if_icmp .ne 12, 3) := by decide +kernel
theorem dX7_rate_42 : decode cX7_rate 42 = .ok (.aload_n 0, 1) := by decide +kernel
theorem dX7_rate_43 : decode cX7_rate 43 = .ok (.getfield 96, 3) := by decide +kernel
theorem dX7_rate_46 : decode cX7_rate 46 = .ok (.iload_n 1, 1) := by decide +kernel
theorem dX7_rate_47 : decode cX7_rate 47 = .ok (.baload, 1) := by decide +kernel
theorem dX7_rate_48 : decode cX7_rate 48 = .ok (.ifCond .eq 7, 3) := by decide +kernel
theorem dX7_rate_51 : decode cX7_rate 51 = .ok (.iconst 3, 1) := by decide +kernel
theorem dX7_rate_52 : decode cX7_rate 52 = .ok (.goto 4, 3) := by decide +kernel
theorem dX7_rate_55 : decode cX7_rate 55 = .ok (.iconst 0, 1) := by decide +kernel
theorem dX7_rate_56 : decode cX7_rate 56 = .ok (.invokevirtual 141, 3) := by decide +kernel
theorem dX7_rate_59 : decode cX7_rate 59 = .ok (.ifCond .eq 5, 3) := by decide +kernel
theorem dX7_rate_62 : decode cX7_rate 62 = .ok (.iconst 0, 1) := by decide +kernel
theorem dX7_rate_63 : decode cX7_rate 63 = .ok (.ireturn, 1) := by decide +kernel
theorem dX7_rate_64 : decode cX7_rate 64 = .ok (.aload_n 0, 1) := by decide +kernel
theorem dX7_rate_65 : decode cX7_rate 65 = .ok (.getfield 96, 3) := by decide +kernel
theorem dX7_rate_68 : decode cX7_rate 68 = .ok (.iload_n 1, 1) := by decide +kernel
theorem dX7_rate_69 : decode cX7_rate 69 = .ok (.iconst 1, 1) := by decide +kernel
theorem dX7_rate_70 : decode cX7_rate 70 = .ok (.bastore, 1) := by decide +kernel
theorem dX7_rate_71 : decode cX7_rate 71 = .ok (.aload_n 0, 1) := by decide +kernel
theorem dX7_rate_72 : decode cX7_rate 72 = .ok (.getfield 84, 3) := by decide +kernel
theorem dX7_rate_75 : decode cX7_rate 75 = .ok (.iload_n 1, 1) := by decide +kernel
theorem dX7_rate_76 : decode cX7_rate 76 = .ok (.iaload, 1) := by decide +kernel
theorem dX7_rate_77 : decode cX7_rate 77 = .ok (.istore 5, 2) := by decide +kernel
theorem dX7_rate_79 : decode cX7_rate 79 = .ok (.aload_n 0, 1) := by decide +kernel
theorem dX7_rate_80 : decode cX7_rate 80 = .ok (.getfield 54, 3) := by decide +kernel
theorem dX7_rate_83 : decode cX7_rate 83 = .ok (.bipush 10, 2) := by decide +kernel
theorem dX7_rate_85 : decode cX7_rate 85 = .ok (.iload 5, 2) := by decide +kernel
theorem dX7_rate_87 : decode cX7_rate 87 = .ok (.imul, 1) := by decide +kernel
theorem dX7_rate_88 : decode cX7_rate 88 = .ok (.aload_n 0, 1) := by decide +kernel
theorem dX7_rate_89 : decode cX7_rate 89 = .ok (.getfield 51, 3) := by decide +kernel
theorem dX7_rate_92 : decode cX7_rate 92 = .ok (.iload 5, 2) := by decide +kernel
theorem dX7_rate_94 : decode cX7_rate 94 = .ok (.iaload, 1) := by decide +kernel
theorem dX7_rate_95 : decode cX7_rate 95 = .ok (.bipush 10, 2) := by decide +kernel
theorem dX7_rate_97 : decode cX7_rate 97 = .ok (.irem, 1) := by decide +kernel
theorem dX7_rate_98 : decode cX7_rate 98 = .ok (.iadd, 1) := by decide +kernel
theorem dX7_rate_99 : decode cX7_rate 99 = .ok (.iload_n 2, 1) := by decide +kernel
theorem dX7_rate_100 : decode cX7_rate 100 = .ok (.iastore, 1) := by decide +kernel
theorem dX7_rate_101 : decode cX7_rate 101 = .ok (.aload_n 0, 1) := by decide +kernel
theorem dX7_rate_102 : decode cX7_rate 102 = .ok (.getfield 51, 3) := by decide +kernel
theorem dX7_rate_105 : decode cX7_rate 105 = .ok (.iload 5, 2) := by decide +kernel
theorem dX7_rate_107 : decode cX7_rate 107 = .ok (.dup2, 1) := by decide +kernel
theorem dX7_rate_108 : decode cX7_rate 108 = .ok (.iaload, 1) := by decide +kernel
theorem dX7_rate_109 : decode cX7_rate 109 = .ok (.iconst 1, 1) := by decide +kernel
theorem dX7_rate_110 : decode cX7_rate 110 = .ok (.iadd, 1) := by decide +kernel
theorem dX7_rate_111 : decode cX7_rate 111 = .ok (.iastore, 1) := by decide +kernel
theorem dX7_rate_112 : decode cX7_rate 112 = .ok (.aload_n 0, 1) := by decide +kernel
theorem dX7_rate_113 : decode cX7_rate 113 = .ok (.getfield 33, 3) := by decide +kernel
theorem dX7_rate_116 : decode cX7_rate 116 = .ok (.iload 5, 2) := by decide +kernel
theorem dX7_rate_118 : decode cX7_rate 118 = .ok (.baload, 1) := by decide +kernel
theorem dX7_rate_119 : decode cX7_rate 119 = .ok (.istore 6, 2) := by decide +kernel
theorem dX7_rate_121 : decode cX7_rate 121 = .ok (.aload_n 0, 1) := by decide +kernel
theorem dX7_rate_122 : decode cX7_rate 122 = .ok (.getfield 33, 3) := by decide +kernel
theorem dX7_rate_125 : decode cX7_rate 125 = .ok (.iload 5, 2) := by decide +kernel
theorem dX7_rate_127 : decode cX7_rate 127 = .ok (.aload_n 0, 1) := by decide +kernel
theorem dX7_rate_128 : decode cX7_rate 128 = .ok (.getfield 51, 3) := by decide +kernel
theorem dX7_rate_131 : decode cX7_rate 131 = .ok (.iload 5, 2) := by decide +kernel
theorem dX7_rate_133 : decode cX7_rate 133 = .ok (.iaload, 1) := by decide +kernel
theorem dX7_rate_134 : decode cX7_rate 134 = .ok (.iconst 5, 1) := by decide +kernel
theorem dX7_rate_135 : decode cX7_rate 135 = .ok (.if_icmp .lt 19, 3) := by decide +kernel
theorem dX7_rate_138 : decode cX7_rate 138 = .ok (.aload_n 0, 1) := by decide +kernel
theorem dX7_rate_139 : decode cX7_rate 139 = .ok (.iload 5, 2) := by decide +kernel
theorem dX7_rate_141 : decode cX7_rate 141 = .ok (.invokevirtual 181, 3) := by decide +kernel
theorem dX7_rate_144 : decode cX7_rate 144 = .ok (.sipush 350, 3) := by decide +kernel
theorem dX7_rate_147 : decode cX7_rate 147 = .ok (.if_icmp .ge 7, 3) := by decide +kernel
theorem dX7_rate_150 : decode cX7_rate 150 = .ok (.iconst 1, 1) := by decide +kernel
theorem dX7_rate_151 : decode cX7_rate 151 = .ok (.goto 4, 3) := by decide +kernel
theorem dX7_rate_154 : decode cX7_rate 154 = .ok (.iconst 0, 1) := by decide +kernel
theorem dX7_rate_155 : decode cX7_rate 155 = .ok (.bastore, 1) := by decide +kernel
theorem dX7_rate_156 : decode cX7_rate 156 = .ok (.iload 6, 2) := by decide +kernel
theorem dX7_rate_158 : decode cX7_rate 158 = .ok (.ifCond .eq 19, 3) := by decide +kernel
theorem dX7_rate_161 : decode cX7_rate 161 = .ok (.aload_n 0, 1) := by decide +kernel
theorem dX7_rate_162 : decode cX7_rate 162 = .ok (.getfield 33, 3) := by decide +kernel
theorem dX7_rate_165 : decode cX7_rate 165 = .ok (.iload 5, 2) := by decide +kernel
theorem dX7_rate_167 : decode cX7_rate 167 = .ok (.baload, 1) := by decide +kernel
theorem dX7_rate_168 : decode cX7_rate 168 = .ok (.ifCond .ne 9, 3) := by decide +kernel
theorem dX7_rate_171 : decode cX7_rate 171 = .ok (.aload_n 0, 1) := by decide +kernel
theorem dX7_rate_172 : decode cX7_rate 172 = .ok (.iload 5, 2) := by decide +kernel
theorem dX7_rate_174 : decode cX7_rate 174 = .ok (.invokevirtual 154, 3) := by decide +kernel
theorem dX7_rate_177 : decode cX7_rate 177 = .ok (.aload_n 0, 1) := by decide +kernel
theorem dX7_rate_178 : decode cX7_rate 178 = .ok (.iload 5, 2) := by decide +kernel
theorem dX7_rate_180 : decode cX7_rate 180 = .ok (.invokevirtual 181, 3) := by decide +kernel
theorem dX7_rate_183 : decode cX7_rate 183 = .ok (.ireturn, 1) := by decide +kernel
set_option maxRecDepth 20000 in
theorem ggX7_give_X7_wayOf : GoodIn wsX7_give wsX7_wayOf := goodIn_r _ [13, 14, 47, 48, 49, 50, 51, 52, 53, 54, 55, 56, 57, 58, 59, 60, 61, 62, 63, 64, 65, 66, 67, 68, 69, 70, 71, 72, 73, 74, 75, 76, 77, 78, 79, 80, 81, 82, 83, 84, 85, 86, 87, 88] (by decide +kernel) (by decide +kernel)
set_option maxRecDepth 20000 in
theorem gX7_give_X7_wayOf : GoodIn wsX7_give (wsV RX7 144 RX7 yX7_wayOf wsX7_wayOf) := goodIn_app (goodIn_of _ (by decide +kernel)) ggX7_give_X7_wayOf
set_option maxRecDepth 20000 in
theorem ggX7_give_X7_add : GoodIn wsX7_give wsX7_add := goodIn_r _ [18, 19, 20, 21, 47, 48, 49, 50, 51, 52, 53, 54, 55, 56, 57, 58, 59, 60, 61, 62, 63, 64, 65, 66, 67, 68, 69, 70, 71, 72, 73, 74, 75, 76, 77, 78, 79, 80, 81, 82, 83, 84, 85, 86, 87, 88] (by decide +kernel) (by decide +kernel)
set_option maxRecDepth 20000 in
theorem gX7_give_X7_add : GoodIn wsX7_give (wsV RX7 167 RX7 yX7_add wsX7_add) := goodIn_app (goodIn_of _ (by decide +kernel)) ggX7_give_X7_add
set_option maxRecDepth 20000 in
theorem ggX7_give_X7_leaves : GoodIn wsX7_give wsX7_leaves := goodIn_r _ [25, 20, 26, 4, 6, 19, 9, 10, 11, 12, 13, 14, 27, 28, 29, 30, 21, 1, 31, 32, 33, 34, 35, 36, 37, 38, 39, 40, 41, 42, 43, 44, 45, 46, 47, 48, 49, 50, 51, 52, 53, 54, 55, 56, 57, 58, 59, 60, 61, 62, 63, 64, 65, 66, 67, 68, 69, 70, 71, 72, 73, 74, 75, 76, 77, 78, 79, 80, 81, 82, 83, 84, 85, 86, 87, 88] (by decide +kernel) (by decide +kernel)
set_option maxRecDepth 20000 in
theorem gX7_give_X7_leaves : GoodIn wsX7_give (wsV RX7 171 RX7 yX7_leaves wsX7_leaves) := goodIn_app (goodIn_of _ (by decide +kernel)) ggX7_give_X7_leaves
theorem dX7_give_0 : decode cX7_give 0 = .ok (.aload_n 0, 1) := by decide +kernel
theorem dX7_give_1 : decode cX7_give 1 = .ok (.getfield 66, 3) := by decide +kernel
theorem dX7_give_4 : decode cX7_give 4 = .ok (.iload_n 1, 1) := by decide +kernel
theorem dX7_give_5 : decode cX7_give 5 = .ok (.iconst 1, 1) := by decide +kernel
theorem dX7_give_6 : decode cX7_give 6 = .ok (.iastore, 1) := by decide +kernel
theorem dX7_give_7 : decode cX7_give 7 = .ok (.aload_n 0, 1) := by decide +kernel
theorem dX7_give_8 : decode cX7_give 8 = .ok (.getfield 84, 3) := by decide +kernel
theorem dX7_give_11 : decode cX7_give 11 = .ok (.iload_n 1, 1) := by decide +kernel
theorem dX7_give_12 : decode cX7_give 12 = .ok (.iload_n 2, 1) := by decide +kernel
theorem dX7_give_13 : decode cX7_give 13 = .ok (.iastore, 1) := by decide +kernel
theorem dX7_give_14 : decode cX7_give 14 = .ok (.aload_n 0, 1) := by decide +kernel
theorem dX7_give_15 : decode cX7_give 15 = .ok (.getfield 93, 3) := by decide +kernel
theorem dX7_give_18 : decode cX7_give 18 = .ok (.iload_n 1, 1) := by decide +kernel
theorem dX7_give_19 : decode cX7_give 19 = .ok (.aload_n 0, 1) := by decide +kernel
theorem dX7_give_20 : decode cX7_give 20 = .ok (.getfield 161, 3) := by decide +kernel
theorem dX7_give_23 : decode cX7_give 23 = .ok (.iastore, 1) := by decide +kernel
theorem dX7_give_24 : decode cX7_give 24 = .ok (.aload_n 0, 1) := by decide +kernel
theorem dX7_give_25 : decode cX7_give 25 = .ok (.getfield 87, 3) := by decide +kernel
theorem dX7_give_28 : decode cX7_give 28 = .ok (.iload_n 1, 1) := by decide +kernel
theorem dX7_give_29 : decode cX7_give 29 = .ok (.aload_n 0, 1) := by decide +kernel
theorem dX7_give_30 : decode cX7_give 30 = .ok (.getfield 161, 3) := by decide +kernel
theorem dX7_give_33 : decode cX7_give 33 = .ok (.aload_n 0, 1) := by decide +kernel
theorem dX7_give_34 : decode cX7_give 34 = .ok (.aload_n 0, 1) := by decide +kernel
theorem dX7_give_35 : decode cX7_give 35 = .ok (.getfield 26, 3) := by decide +kernel
theorem dX7_give_38 : decode cX7_give 38 = .ok (.iload_n 2, 1) := by decide +kernel
theorem dX7_give_39 : decode cX7_give 39 = .ok (.iaload, 1) := by decide +kernel
theorem dX7_give_40 : decode cX7_give 40 = .ok (.aload_n 0, 1) := by decide +kernel
theorem dX7_give_41 : decode cX7_give 41 = .ok (.getfield 69, 3) := by decide +kernel
theorem dX7_give_44 : decode cX7_give 44 = .ok (.iload_n 1, 1) := by decide +kernel
theorem dX7_give_45 : decode cX7_give 45 = .ok (.iaload, 1) := by decide +kernel
theorem dX7_give_46 : decode cX7_give 46 = .ok (.invokevirtual 144, 3) := by decide +kernel
theorem dX7_give_49 : decode cX7_give 49 = .ok (.iadd, 1) := by decide +kernel
theorem dX7_give_50 : decode cX7_give 50 = .ok (.aload_n 0, 1) := by decide +kernel
theorem dX7_give_51 : decode cX7_give 51 = .ok (.aload_n 0, 1) := by decide +kernel
theorem dX7_give_52 : decode cX7_give 52 = .ok (.getfield 69, 3) := by decide +kernel
theorem dX7_give_55 : decode cX7_give 55 = .ok (.iload_n 1, 1) := by decide +kernel
theorem dX7_give_56 : decode cX7_give 56 = .ok (.iaload, 1) := by decide +kernel
theorem dX7_give_57 : decode cX7_give 57 = .ok (.aload_n 0, 1) := by decide +kernel
theorem dX7_give_58 : decode cX7_give 58 = .ok (.getfield 72, 3) := by decide +kernel
theorem dX7_give_61 : decode cX7_give 61 = .ok (.iload_n 1, 1) := by decide +kernel
theorem dX7_give_62 : decode cX7_give 62 = .ok (.iaload, 1) := by decide +kernel
theorem dX7_give_63 : decode cX7_give 63 = .ok (.invokevirtual 144, 3) := by decide +kernel
theorem dX7_give_66 : decode cX7_give 66 = .ok (.iconst 3, 1) := by decide +kernel
theorem dX7_give_67 : decode cX7_give 67 = .ok (.imul, 1) := by decide +kernel
theorem dX7_give_68 : decode cX7_give 68 = .ok (.iconst 2, 1) := by decide +kernel
theorem dX7_give_69 : decode cX7_give 69 = .ok (.idiv, 1) := by decide +kernel
theorem dX7_give_70 : decode cX7_give 70 = .ok (.iadd, 1) := by decide +kernel
theorem dX7_give_71 : decode cX7_give 71 = .ok (.iastore, 1) := by decide +kernel
theorem dX7_give_72 : decode cX7_give 72 = .ok (.aload_n 0, 1) := by decide +kernel
theorem dX7_give_73 : decode cX7_give 73 = .ok (.iload_n 2, 1) := by decide +kernel
theorem dX7_give_74 : decode cX7_give 74 = .ok (.aload_n 0, 1) := by decide +kernel
theorem dX7_give_75 : decode cX7_give 75 = .ok (.getfield 69, 3) := by decide +kernel
theorem dX7_give_78 : decode cX7_give 78 = .ok (.iload_n 1, 1) := by decide +kernel
theorem dX7_give_79 : decode cX7_give 79 = .ok (.iaload, 1) := by decide +kernel
theorem dX7_give_80 : decode cX7_give 80 = .ok (.iload_n 1, 1) := by decide +kernel
theorem dX7_give_81 : decode cX7_give 81 = .ok (.invokevirtual 167, 3) := by decide +kernel
theorem dX7_give_84 : decode cX7_give 84 = .ok (.aload_n 0, 1) := by decide +kernel
theorem dX7_give_85 : decode cX7_give 85 = .ok (.iload_n 2, 1) := by decide +kernel
theorem dX7_give_86 : decode cX7_give 86 = .ok (.aload_n 0, 1) := by decide +kernel
theorem dX7_give_87 : decode cX7_give 87 = .ok (.getfield 72, 3) := by decide +kernel
theorem dX7_give_90 : decode cX7_give 90 = .ok (.iload_n 1, 1) := by decide +kernel
theorem dX7_give_91 : decode cX7_give 91 = .ok (.iaload, 1) := by decide +kernel
theorem dX7_give_92 : decode cX7_give 92 = .ok (.bipush 100, 2) := by decide +kernel
theorem dX7_give_94 : decode cX7_give 94 = .ok (.iload_n 1, 1) := by decide +kernel
theorem dX7_give_95 : decode cX7_give 95 = .ok (.iadd, 1) := by decide +kernel
theorem dX7_give_96 : decode cX7_give 96 = .ok (.invokevirtual 167, 3) := by decide +kernel
theorem dX7_give_99 : decode cX7_give 99 = .ok (.aload_n 0, 1) := by decide +kernel
theorem dX7_give_100 : decode cX7_give 100 = .ok (.iload_n 2, 1) := by decide +kernel
theorem dX7_give_101 : decode cX7_give 101 = .ok (.invokevirtual 171, 3) := by decide +kernel
theorem dX7_give_104 : decode cX7_give 104 = .ok (.return_, 1) := by decide +kernel
set_option maxRecDepth 20000 in
theorem ggX7_airport_X7_isFree : GoodIn wsX7_airport wsX7_isFree := goodIn_r _ [12, 13, 14, 15, 54, 55, 56, 57, 58, 59, 60, 61, 62, 63, 64, 65, 66, 67, 68, 69, 70, 71, 72, 73, 74, 75, 76, 77, 78, 79, 80, 81, 82, 83, 84, 85, 86, 87, 88, 89, 90, 91, 92, 93, 94, 95] (by decide +kernel) (by decide +kernel)
set_option maxRecDepth 20000 in
theorem gX7_airport_X7_isFree : GoodIn wsX7_airport (wsV RX7 148 RX7 yX7_isFree wsX7_isFree) := goodIn_app (goodIn_of _ (by decide +kernel)) ggX7_airport_X7_isFree
set_option maxRecDepth 20000 in
theorem ggX7_airport_X7_give : GoodIn wsX7_airport wsX7_give := goodIn_r _ [19, 6, 20, 21, 22, 23, 4, 7, 24, 25, 26, 27, 11, 28, 29, 30, 31, 32, 33, 34, 13, 35, 36, 37, 38, 39, 40, 41, 42, 43, 44, 45, 46, 47, 48, 49, 50, 51, 52, 53, 5, 8, 9, 10, 12, 14, 15, 54, 55, 56, 57, 58, 59, 60, 61, 62, 63, 64, 65, 66, 67, 68, 69, 70, 71, 72, 73, 74, 75, 76, 77, 78, 79, 80, 81, 82, 83, 84, 85, 86, 87, 88, 89, 90, 91, 92, 93, 94, 95] (by decide +kernel) (by decide +kernel)
set_option maxRecDepth 20000 in
theorem gX7_airport_X7_give : GoodIn wsX7_airport (wsV RX7 184 RX7 yX7_give wsX7_give) := goodIn_app (goodIn_of _ (by decide +kernel)) ggX7_airport_X7_give
theorem dX7_airport_0 : decode cX7_airport 0 = .ok (.aload_n 0, 1) := by decide +kernel
theorem dX7_airport_1 : decode cX7_airport 1 = .ok (.iconst 0, 1) := by decide +kernel
theorem dX7_airport_2 : decode cX7_airport 2 = .ok (.putfield 120, 3) := by decide +kernel
theorem dX7_airport_5 : decode cX7_airport 5 = .ok (.iconst 0, 1) := by decide +kernel
theorem dX7_airport_6 : decode cX7_airport 6 = .ok (.istore_n 1, 1) := by decide +kernel
theorem dX7_airport_7 : decode cX7_airport 7 = .ok (.iconst 0, 1) := by decide +kernel
theorem dX7_airport_8 : decode cX7_airport 8 = .ok (.istore_n 2, 1) := by decide +kernel
theorem dX7_airport_9 : decode cX7_airport 9 = .ok (.iload_n 2, 1) := by decide +kernel
theorem dX7_airport_10 : decode cX7_airport 10 = .ok (.aload_n 0, 1) := by decide +kernel
theorem dX7_airport_11 : decode cX7_airport 11 = .ok (.getfield 130, 3) := by decide +kernel
theorem dX7_airport_14 : decode cX7_airport 14 = .ok (.if_icmp .ge 108, 3) := by decide +kernel
theorem dX7_airport_17 : decode cX7_airport 17 = .ok (.iconst (-1), 1) := by decide +kernel
theorem dX7_airport_18 : decode cX7_airport 18 = .ok (.istore_n 3, 1) := by decide +kernel
theorem dX7_airport_19 : decode cX7_airport 19 = .ok (.iconst 0, 1) := by decide +kernel
theorem dX7_airport_20 : decode cX7_airport 20 = .ok (.istore 4, 2) := by decide +kernel
theorem dX7_airport_22 : decode cX7_airport 22 = .ok (.iload 4, 2) := by decide +kernel
theorem dX7_airport_24 : decode cX7_airport 24 = .ok (.aload_n 0, 1) := by decide +kernel
theorem dX7_airport_25 : decode cX7_airport 25 = .ok (.getfield 127, 3) := by decide +kernel
theorem dX7_airport_28 : decode cX7_airport 28 = .ok (.if_icmp .ge 56, 3) := by decide +kernel
theorem dX7_airport_31 : decode cX7_airport 31 = .ok (.aload_n 0, 1) := by decide +kernel
theorem dX7_airport_32 : decode cX7_airport 32 = .ok (.iload 4, 2) := by decide +kernel
theorem dX7_airport_34 : decode cX7_airport 34 = .ok (.invokevirtual 148, 3) := by decide +kernel
theorem dX7_airport_37 : decode cX7_airport 37 = .ok (.ifCond .eq 39, 3) := by decide +kernel
theorem dX7_airport_40 : decode cX7_airport 40 = .ok (.aload_n 0, 1) := by decide +kernel
theorem dX7_airport_41 : decode cX7_airport 41 = .ok (.getfield 26, 3) := by decide +kernel
theorem dX7_airport_44 : decode cX7_airport 44 = .ok (.iload 4, 2) := by decide +kernel
theorem dX7_airport_46 : decode cX7_airport 46 = .ok (.iaload, 1) := by decide +kernel
theorem dX7_airport_47 : decode cX7_airport 47 = .ok (.ifCond .ne 29, 3) := by decide +kernel
theorem dX7_airport_50 : decode cX7_airport 50 = .ok (.iload_n 3, 1) := by decide +kernel
theorem dX7_airport_51 : decode cX7_airport 51 = .ok (.iconst (-1), 1) := by decide +kernel
theorem dX7_airport_52 : decode cX7_airport 52 = .ok (.if_icmp .eq 19, 3) := by decide +kernel
theorem dX7_airport_55 : decode cX7_airport 55 = .ok (.aload_n 0, 1) := by decide +kernel
theorem dX7_airport_56 : decode cX7_airport 56 = .ok (.getfield 48, 3) := by decide +kernel
theorem dX7_airport_59 : decode cX7_airport 59 = .ok (.iload 4, 2) := by decide +kernel
theorem dX7_airport_61 : decode cX7_airport 61 = .ok (.iaload, 1) := by decide +kernel
theorem dX7_airport_62 : decode cX7_airport 62 = .ok (.aload_n 0, 1) := by decide +kernel
theorem dX7_airport_63 : decode cX7_airport 63 = .ok (.getfield 48, 3) := by decide +kernel
theorem dX7_airport_66 : decode cX7_airport 66 = .ok (.iload_n 3, 1) := by decide +kernel
theorem dX7_airport_67 : decode cX7_airport 67 = .ok (.iaload, 1) := by decide +kernel
theorem dX7_airport_68 : decode cX7_airport 68 = .ok (.if_icmp .ge 8, 3) := by decide +kernel
theorem dX7_airport_71 : decode cX7_airport 71 = .ok (.iload 4, 2) := by decide +kernel
theorem dX7_airport_73 : decode cX7_airport 73 = .ok (.goto 4, 3) := by decide +kernel
theorem dX7_airport_76 : decode cX7_airport 76 = .ok (.iload_n 3, 1) := by decide +kernel
theorem dX7_airport_77 : decode cX7_airport 77 = .ok (.istore_n 3, 1) := by decide +kernel
theorem dX7_airport_78 : decode cX7_airport 78 = .ok (.iinc 4 1, 3) := by decide +kernel
theorem dX7_airport_81 : decode cX7_airport 81 = .ok (.goto (-59), 3) := by decide +kernel
theorem dX7_airport_84 : decode cX7_airport 84 = .ok (.aload_n 0, 1) := by decide +kernel
theorem dX7_airport_85 : decode cX7_airport 85 = .ok (.getfield 66, 3) := by decide +kernel
theorem dX7_airport_88 : decode cX7_airport 88 = .ok (.iload_n 2, 1) := by decide +kernel
theorem dX7_airport_89 : decode cX7_airport 89 = .ok (.iaload, 1) := by decide +kernel
theorem dX7_airport_90 : decode cX7_airport 90 = .ok (.ifCond .ne 26, 3) := by decide +kernel
theorem dX7_airport_93 : decode cX7_airport 93 = .ok (.aload_n 0, 1) := by decide +kernel
theorem dX7_airport_94 : decode cX7_airport 94 = .ok (.getfield 69, 3) := by decide +kernel
theorem dX7_airport_97 : decode cX7_airport 97 = .ok (.iload_n 2, 1) := by decide +kernel
theorem dX7_airport_98 : decode cX7_airport 98 = .ok (.iaload, 1) := by decide +kernel
theorem dX7_airport_99 : decode cX7_airport 99 = .ok (.ifCond .ne 17, 3) := by decide +kernel
theorem dX7_airport_102 : decode cX7_airport 102 = .ok (.iload_n 3, 1) := by decide +kernel
theorem dX7_airport_103 : decode cX7_airport 103 = .ok (.iconst (-1), 1) := by decide +kernel
theorem dX7_airport_104 : decode cX7_airport 104 = .ok (.if_icmp .eq 12, 3) := by decide +kernel
theorem dX7_airport_107 : decode cX7_airport 107 = .ok (.aload_n 0, 1) := by decide +kernel
theorem dX7_airport_108 : decode cX7_airport 108 = .ok (.iload_n 2, 1) := by decide +kernel
theorem dX7_airport_109 : decode cX7_airport 109 = .ok (.iload_n 3, 1) := by decide +kernel
theorem dX7_airport_110 : decode cX7_airport 110 = .ok (.invokevirtual 184, 3) := by decide +kernel
theorem dX7_airport_113 : decode cX7_airport 113 = .ok (.iinc 1 1, 3) := by decide +kernel
theorem dX7_airport_116 : decode cX7_airport 116 = .ok (.iinc 2 1, 3) := by decide +kernel
theorem dX7_airport_119 : decode cX7_airport 119 = .ok (.goto (-110), 3) := by decide +kernel
theorem dX7_airport_122 : decode cX7_airport 122 = .ok (.iload_n 1, 1) := by decide +kernel
theorem dX7_airport_123 : decode cX7_airport 123 = .ok (.ireturn, 1) := by decide +kernel
theorem dX7_lay_0 : decode cX7_lay 0 = .ok (.iconst 0, 1) := by decide +kernel
theorem dX7_lay_1 : decode cX7_lay 1 = .ok (.istore_n 1, 1) := by decide +kernel
theorem dX7_lay_2 : decode cX7_lay 2 = .ok (.iconst 0, 1) := by decide +kernel
theorem dX7_lay_3 : decode cX7_lay 3 = .ok (.istore_n 2, 1) := by decide +kernel
theorem dX7_lay_4 : decode cX7_lay 4 = .ok (.iload_n 2, 1) := by decide +kernel
theorem dX7_lay_5 : decode cX7_lay 5 = .ok (.aload_n 0, 1) := by decide +kernel
theorem dX7_lay_6 : decode cX7_lay 6 = .ok (.getfield 130, 3) := by decide +kernel
theorem dX7_lay_9 : decode cX7_lay 9 = .ok (.if_icmp .ge 42, 3) := by decide +kernel
theorem dX7_lay_12 : decode cX7_lay 12 = .ok (.aload_n 0, 1) := by decide +kernel
theorem dX7_lay_13 : decode cX7_lay 13 = .ok (.getfield 66, 3) := by decide +kernel
theorem dX7_lay_16 : decode cX7_lay 16 = .ok (.iload_n 2, 1) := by decide +kernel
theorem dX7_lay_17 : decode cX7_lay 17 = .ok (.iaload, 1) := by decide +kernel
theorem dX7_lay_18 : decode cX7_lay 18 = .ok (.ifCond .ne 27, 3) := by decide +kernel
theorem dX7_lay_21 : decode cX7_lay 21 = .ok (.aload_n 0, 1) := by decide +kernel
theorem dX7_lay_22 : decode cX7_lay 22 = .ok (.getfield 69, 3) := by decide +kernel
theorem dX7_lay_25 : decode cX7_lay 25 = .ok (.iload_n 2, 1) := by decide +kernel
theorem dX7_lay_26 : decode cX7_lay 26 = .ok (.iaload, 1) := by decide +kernel
theorem dX7_lay_27 : decode cX7_lay 27 = .ok (.ifCond .eq 18, 3) := by decide +kernel
theorem dX7_lay_30 : decode cX7_lay 30 = .ok (.iload_n 1, 1) := by decide +kernel
theorem dX7_lay_31 : decode cX7_lay 31 = .ok (.iconst 5, 1) := by decide +kernel
theorem dX7_lay_32 : decode cX7_lay 32 = .ok (.if_icmp .ge 10, 3) := by decide +kernel
theorem dX7_lay_35 : decode cX7_lay 35 = .ok (.aload_n 0, 1) := by decide +kernel
theorem dX7_lay_36 : decode cX7_lay 36 = .ok (.getfield 99, 3) := by decide +kernel
theorem dX7_lay_39 : decode cX7_lay 39 = .ok (.iload_n 1, 1) := by decide +kernel
theorem dX7_lay_40 : decode cX7_lay 40 = .ok (.iload_n 2, 1) := by decide +kernel
theorem dX7_lay_41 : decode cX7_lay 41 = .ok (.iastore, 1) := by decide +kernel
theorem dX7_lay_42 : decode cX7_lay 42 = .ok (.iinc 1 1, 3) := by decide +kernel
theorem dX7_lay_45 : decode cX7_lay 45 = .ok (.iinc 2 1, 3) := by decide +kernel
theorem dX7_lay_48 : decode cX7_lay 48 = .ok (.goto (-44), 3) := by decide +kernel
theorem dX7_lay_51 : decode cX7_lay 51 = .ok (.iload_n 1, 1) := by decide +kernel
theorem dX7_lay_52 : decode cX7_lay 52 = .ok (.ireturn, 1) := by decide +kernel
set_option maxRecDepth 20000 in
theorem ggX7_tryAll_X7_wayOf : GoodIn wsX7_tryAll wsX7_wayOf := goodIn_r _ [16, 17, 25, 26, 27, 28, 29, 30, 31, 32, 33, 34, 35, 36, 37, 38, 39, 40, 41, 42, 43, 44, 45, 46, 47, 48, 49, 50, 51, 52, 53, 54, 55, 56, 57, 58, 59, 60, 61, 62, 63, 64, 65, 66] (by decide +kernel) (by decide +kernel)
set_option maxRecDepth 20000 in
theorem gX7_tryAll_X7_wayOf : GoodIn wsX7_tryAll (wsV RX7 144 RX7 yX7_wayOf wsX7_wayOf) := goodIn_app (goodIn_of _ (by decide +kernel)) ggX7_tryAll_X7_wayOf
set_option maxRecDepth 20000 in
theorem ggX7_tryAll_X7_isFree : GoodIn wsX7_tryAll wsX7_isFree := goodIn_r _ [21, 22, 23, 24, 25, 26, 27, 28, 29, 30, 31, 32, 33, 34, 35, 36, 37, 38, 39, 40, 41, 42, 43, 44, 45, 46, 47, 48, 49, 50, 51, 52, 53, 54, 55, 56, 57, 58, 59, 60, 61, 62, 63, 64, 65, 66] (by decide +kernel) (by decide +kernel)
set_option maxRecDepth 20000 in
theorem gX7_tryAll_X7_isFree : GoodIn wsX7_tryAll (wsV RX7 148 RX7 yX7_isFree wsX7_isFree) := goodIn_app (goodIn_of _ (by decide +kernel)) ggX7_tryAll_X7_isFree
theorem dX7_tryAll_0 : decode cX7_tryAll 0 = .ok (.iconst 1, 1) := by decide +kernel
theorem dX7_tryAll_1 : decode cX7_tryAll 1 = .ok (.istore_n 2, 1) := by decide +kernel
theorem dX7_tryAll_2 : decode cX7_tryAll 2 = .ok (.iconst 0, 1) := by decide +kernel
theorem dX7_tryAll_3 : decode cX7_tryAll 3 = .ok (.istore_n 3, 1) := by decide +kernel
theorem dX7_tryAll_4 : decode cX7_tryAll 4 = .ok (.iload_n 3, 1) := by decide +kernel
theorem dX7_tryAll_5 : decode cX7_tryAll 5 = .ok (.iload_n 1, 1) := by decide +kernel
theorem dX7_tryAll_6 : decode cX7_tryAll 6 = .ok (.if_icmp .ge 18, 3) := by decide +kernel
theorem dX7_tryAll_9 : decode cX7_tryAll 9 = .ok (.iload_n 2, 1) := by decide +kernel
theorem dX7_tryAll_10 : decode cX7_tryAll 10 = .ok (.aload_n 0, 1) := by decide +kernel
theorem dX7_tryAll_11 : decode cX7_tryAll 11 = .ok (.getfield 127, 3) := by decide +kernel
theorem dX7_tryAll_14 : decode cX7_tryAll 14 = .ok (.iconst 1, 1) := by decide +kernel
theorem dX7_tryAll_15 : decode cX7_tryAll 15 = .ok (.iadd, 1) := by decide +kernel
theorem dX7_tryAll_16 : decode cX7_tryAll 16 = .ok (.imul, 1) := by decide +kernel
theorem dX7_tryAll_17 : decode cX7_tryAll 17 = .ok (.istore_n 2, 1) := by decide +kernel
theorem dX7_tryAll_18 : decode cX7_tryAll 18 = .ok (.iinc 3 1, 3) := by decide +kernel
theorem dX7_tryAll_21 : decode cX7_tryAll 21 = .ok (.goto (-17), 3) := by decide +kernel
theorem dX7_tryAll_24 : decode cX7_tryAll 24 = .ok (.aload_n 0, 1) := by decide +kernel
theorem dX7_tryAll_25 : decode cX7_tryAll 25 = .ok (.iconst (-1), 1) := by decide +kernel
theorem dX7_tryAll_26 : decode cX7_tryAll 26 = .ok (.putfield 188, 3) := by decide +kernel
theorem dX7_tryAll_29 : decode cX7_tryAll 29 = .ok (.iconst 0, 1) := by decide +kernel
theorem dX7_tryAll_30 : decode cX7_tryAll 30 = .ok (.istore_n 3, 1) := by decide +kernel
theorem dX7_tryAll_31 : decode cX7_tryAll 31 = .ok (.iload_n 3, 1) := by decide +kernel
theorem dX7_tryAll_32 : decode cX7_tryAll 32 = .ok (.iload_n 2, 1) := by decide +kernel
theorem dX7_tryAll_33 : decode cX7_tryAll 33 = .ok (.if_icmp .ge 228, 3) := by decide +kernel
theorem dX7_tryAll_36 : decode cX7_tryAll 36 = .ok (.iload_n 3, 1) := by decide +kernel
theorem dX7_tryAll_37 : decode cX7_tryAll 37 = .ok (.istore 4, 2) := by decide +kernel
theorem dX7_tryAll_39 : decode cX7_tryAll 39 = .ok (.iconst 0, 1) := by decide +kernel
theorem dX7_tryAll_40 : decode cX7_tryAll 40 = .ok (.istore 5, 2) := by decide +kernel
theorem dX7_tryAll_42 : decode cX7_tryAll 42 = .ok (.iconst 0, 1) := by decide +kernel
theorem dX7_tryAll_43 : decode cX7_tryAll 43 = .ok (.istore 6, 2) := by decide +kernel
theorem dX7_tryAll_45 : decode cX7_tryAll 45 = .ok (.iload_n 1, 1) := by decide +kernel
theorem dX7_tryAll_46 : decode cX7_tryAll 46 = .ok (.iconst 1, 1) := by decide +kernel
theorem dX7_tryAll_47 : decode cX7_tryAll 47 = .ok (.isub, 1) := by decide +kernel
theorem dX7_tryAll_48 : decode cX7_tryAll 48 = .ok (.istore 7, 2) := by decide +kernel
theorem dX7_tryAll_50 : decode cX7_tryAll 50 = .ok (.iload 7, 2) := by decide +kernel
theorem dX7_tryAll_52 : decode cX7_tryAll 52 = .ok (.ifCond .lt 159, 3) := by decide +kernel
theorem dX7_tryAll_55 : decode cX7_tryAll 55 = .ok (.iload 4, 2) := by decide +kernel
theorem dX7_tryAll_57 : decode cX7_tryAll 57 = .ok (.aload_n 0, 1) := by decide +kernel
theorem dX7_tryAll_58 : decode cX7_tryAll 58 = .ok (.getfield 127, 3) := by decide +kernel
theorem dX7_tryAll_61 : decode cX7_tryAll 61 = .ok (.iconst 1, 1) := by decide +kernel
theorem dX7_tryAll_62 : decode cX7_tryAll 62 = .ok (.iadd, 1) := by decide +kernel
theorem dX7_tryAll_63 : decode cX7_tryAll 63 = .ok (.irem, 1) := by decide +kernel
theorem dX7_tryAll_64 : decode cX7_tryAll 64 = .ok (.istore 8, 2) := by decide +kernel
theorem dX7_tryAll_66 : decode cX7_tryAll 66 = .ok (.iload 4, 2) := by decide +kernel
theorem dX7_tryAll_68 : decode cX7_tryAll 68 = .ok (.aload_n 0, 1) := by decide +kernel
theorem dX7_tryAll_69 : decode cX7_tryAll 69 = .ok (.getfield 127, 3) := by decide +kernel
theorem dX7_tryAll_72 : decode cX7_tryAll 72 = .ok (.iconst 1, 1) := by decide +kernel
theorem dX7_tryAll_73 : decode cX7_tryAll 73 = .ok (.iadd, 1) := by decide +kernel
theorem dX7_tryAll_74 : decode cX7_tryAll 74 = .ok (.idiv, 1) := by decide +kernel
theorem dX7_tryAll_75 : decode cX7_tryAll 75 = .ok (.istore 4, 2) := by decide +kernel
theorem dX7_tryAll_77 : decode cX7_tryAll 77 = .ok (.aload_n 0, 1) := by decide +kernel
theorem dX7_tryAll_78 : decode cX7_tryAll 78 = .ok (.getfield 102, 3) := by decide +kernel
theorem dX7_tryAll_81 : decode cX7_tryAll 81 = .ok (.iload 7, 2) := by decide +kernel
theorem dX7_tryAll_83 : decode cX7_tryAll 83 = .ok (.iload 8, 2) := by decide +kernel
theorem dX7_tryAll_85 : decode cX7_tryAll 85 = .ok (.iastore, 1) := by decide +kernel
theorem dX7_tryAll_86 : decode cX7_tryAll 86 = .ok (.iload 8, 2) := by decide +kernel
theorem dX7_tryAll_88 : decode cX7_tryAll 88 = .ok (.aload_n 0, 1) := by decide +kernel
theorem dX7_tryAll_89 : decode cX7_tryAll 89 = .ok (.getfield 127, 3) := by decide +kernel
theorem dX7_tryAll_92 : decode cX7_tryAll 92 = .ok (.if_icmp .ge 113, 3) := by decide +kernel
theorem dX7_tryAll_95 : decode cX7_tryAll 95 = .ok (.aload_n 0, 1) := by decide +kernel
theorem dX7_tryAll_96 : decode cX7_tryAll 96 = .ok (.aload_n 0, 1) := by decide +kernel
theorem dX7_tryAll_97 : decode cX7_tryAll 97 = .ok (.getfield 26, 3) := by decide +kernel
theorem dX7_tryAll_100 : decode cX7_tryAll 100 = .ok (.iload 8, 2) := by decide +kernel
theorem dX7_tryAll_102 : decode cX7_tryAll 102 = .ok (.iaload, 1) := by decide +kernel
theorem dX7_tryAll_103 : decode cX7_tryAll 103 = .ok (.aload_n 0, 1) := by decide +kernel
theorem dX7_tryAll_104 : decode cX7_tryAll 104 = .ok (.getfield 69, 3) := by decide +kernel
theorem dX7_tryAll_107 : decode cX7_tryAll 107 = .ok (.aload_n 0, 1) := by decide +kernel
theorem dX7_tryAll_108 : decode cX7_tryAll 108 = .ok (.getfield 99, 3) := by decide +kernel
theorem dX7_tryAll_111 : decode cX7_tryAll 111 = .ok (.iload 7, 2) := by decide +kernel
theorem dX7_tryAll_113 : decode cX7_tryAll 113 = .ok (.iaload, 1) := by decide +kernel
theorem dX7_tryAll_114 : decode cX7_tryAll 114 = .ok (.iaload, 1) := by decide +kernel
theorem dX7_tryAll_115 : decode cX7_tryAll 115 = .ok (.invokevirtual 144, 3) := by decide +kernel
theorem dX7_tryAll_118 : decode cX7_tryAll 118 = .ok (.istore 9, 2) := by decide +kernel
theorem dX7_tryAll_120 : decode cX7_tryAll 120 = .ok (.aload_n 0, 1) := by decide +kernel
theorem dX7_tryAll_121 : decode cX7_tryAll 121 = .ok (.iload 8, 2) := by decide +kernel
theorem dX7_tryAll_123 : decode cX7_tryAll 123 = .ok (.invokevirtual 148, 3) := by decide +kernel
theorem dX7_tryAll_126 : decode cX7_tryAll 126 = .ok (.ifCond .eq 46, 3) := by decide +kernel
theorem dX7_tryAll_129 : decode cX7_tryAll 129 = .ok (.iload 5, 2) := by decide +kernel
theorem dX7_tryAll_131 : decode cX7_tryAll 131 = .ok (.iload 8, 2) := by decide +kernel
theorem dX7_tryAll_133 : decode cX7_tryAll 133 = .ok (.ishr, 1) := by decide +kernel
theorem dX7_tryAll_134 : decode cX7_tryAll 134 = .ok (.iconst 1, 1) := by decide +kernel
theorem dX7_tryAll_135 : decode cX7_tryAll 135 = .ok (.iand, 1) := by decide +kernel
theorem dX7_tryAll_136 : decode cX7_tryAll 136 = .ok (.ifCond .ne 36, 3) := by decide +kernel
theorem dX7_tryAll_139 : decode cX7_tryAll 139 = .ok (.iload 9, 2) := by decide +kernel
theorem dX7_tryAll_141 : decode cX7_tryAll 141 = .ok (.ldc 133, 2) := by decide +kernel
theorem dX7_tryAll_143 : decode cX7_tryAll 143 = .ok (.if_icmp .ge 29, 3) := by decide +kernel
theorem dX7_tryAll_146 : decode cX7_tryAll 146 = .ok (.aload_n 0, 1) := by decide +kernel
theorem dX7_tryAll_147 : decode cX7_tryAll 147 = .ok (.getfield 161, 3) := by decide +kernel
theorem dX7_tryAll_150 : decode cX7_tryAll 150 = .ok (.iload 9, 2) := by decide +kernel
theorem dX7_tryAll_152 : decode cX7_tryAll 152 = .ok (.iadd, 1) := by decide +kernel
theorem dX7_tryAll_153 : decode cX7_tryAll 153 = .ok (.aload_n 0, 1) := by decide +kernel
theorem dX7_tryAll_154 : decode cX7_tryAll 154 = .ok (.getfield 75, 3) := by decide +kernel
theorem dX7_tryAll_157 : decode cX7_tryAll 157 = .ok (.aload_n 0, 1) := by decide +kernel
theorem dX7_tryAll_158 : decode cX7_tryAll 158 = .ok (.getfield 99, 3) := by decide +kernel
theorem dX7_tryAll_161 : decode cX7_tryAll 161 = .ok (.iload 7, 2) := by decide +kernel
theorem dX7_tryAll_163 : decode cX7_tryAll 163 = .ok (.iaload, 1) := by decide +kernel
theorem dX7_tryAll_164 : decode cX7_tryAll 164 = .ok (.iaload, 1) := by decide +kernel
theorem dX7_tryAll_165 : decode cX7_tryAll 165 = .ok (.if_icmp .gt 7, 3) := by decide +kernel
theorem dX7_tryAll_168 : decode cX7_tryAll 168 = .ok (.iconst 1, 1) := by decide +kernel
theorem dX7_tryAll_169 : decode cX7_tryAll 169 = .ok (.goto 4, 3) := by decide +kernel
theorem dX7_tryAll_172 : decode cX7_tryAll 172 = .ok (.iconst 0, 1) := by decide +kernel
theorem dX7_tryAll_173 : decode cX7_tryAll 173 = .ok (.istore 10, 2) := by decide +kernel
theorem dX7_tryAll_175 : decode cX7_tryAll 175 = .ok (.iload 6, 2) := by decide +kernel
theorem dX7_tryAll_177 : decode cX7_tryAll 177 = .ok (.iload 10, 2) := by decide +kernel
theorem dX7_tryAll_179 : decode cX7_tryAll 179 = .ok (.ifCond .eq 12, 3) := by decide +kernel
theorem dX7_tryAll_182 : decode cX7_tryAll 182 = .ok (.sipush 10000, 3) := by decide +kernel
theorem dX7_tryAll_185 : decode cX7_tryAll 185 = .ok (.iload 9, 2) := by decide +kernel
theorem dX7_tryAll_187 : decode cX7_tryAll 187 = .ok (.isub, 1) := by decide +kernel
theorem dX7_tryAll_188 : decode cX7_tryAll 188 = .ok (.goto 5, 3) := by decide +kernel
theorem dX7_tryAll_191 : decode cX7_tryAll 191 = .ok (.ldc 191, 2) := by decide +kernel
theorem dX7_tryAll_193 : decode cX7_tryAll 193 = .ok (.iadd, 1) := by decide +kernel
theorem dX7_tryAll_194 : decode cX7_tryAll 194 = .ok (.istore 6, 2) := by decide +kernel
theorem dX7_tryAll_196 : decode cX7_tryAll 196 = .ok (.iload 5, 2) := by decide +kernel
theorem dX7_tryAll_198 : decode cX7_tryAll 198 = .ok (.iconst 1, 1) := by decide +kernel
theorem dX7_tryAll_199 : decode cX7_tryAll 199 = .ok (.iload 8, 2) := by decide +kernel
theorem dX7_tryAll_201 : decode cX7_tryAll 201 = .ok (.ishl, 1) := by decide +kernel
theorem dX7_tryAll_202 : decode cX7_tryAll 202 = .ok (.ior, 1) := by decide +kernel
theorem dX7_tryAll_203 : decode cX7_tryAll 203 = .ok (.istore 5, 2) := by decide +kernel
theorem dX7_tryAll_205 : decode cX7_tryAll 205 = .ok (.iinc 7 (-1), 3) := by decide +kernel
theorem dX7_tryAll_208 : decode cX7_tryAll 208 = .ok (.goto (-158), 3) := by decide +kernel
theorem dX7_tryAll_211 : decode cX7_tryAll 211 = .ok (.iload 6, 2) := by decide +kernel
theorem dX7_tryAll_213 : decode cX7_tryAll 213 = .ok (.aload_n 0, 1) := by decide +kernel
theorem dX7_tryAll_214 : decode cX7_tryAll 214 = .ok (.getfield 188, 3) := by decide +kernel
theorem dX7_tryAll_217 : decode cX7_tryAll 217 = .ok (.if_icmp .le 38, 3) := by decide +kernel
theorem dX7_tryAll_220 : decode cX7_tryAll 220 = .ok (.aload_n 0, 1) := by decide +kernel
theorem dX7_tryAll_221 : decode cX7_tryAll 221 = .ok (.iload 6, 2) := by decide +kernel
theorem dX7_tryAll_223 : decode cX7_tryAll 223 = .ok (.putfield 188, 3) := by decide +kernel
theorem dX7_tryAll_226 : decode cX7_tryAll 226 = .ok (.iconst 0, 1) := by decide +kernel
theorem dX7_tryAll_227 : decode cX7_tryAll 227 = .ok (.istore 7, 2) := by decide +kernel
theorem dX7_tryAll_229 : decode cX7_tryAll 229 = .ok (.iload 7, 2) := by decide +kernel
theorem dX7_tryAll_231 : decode cX7_tryAll 231 = .ok (.iload_n 1, 1) := by decide +kernel
theorem dX7_tryAll_232 : decode cX7_tryAll 232 = .ok (.if_icmp .ge 23, 3) := by decide +kernel
theorem dX7_tryAll_235 : decode cX7_tryAll 235 = .ok (.aload_n 0, 1) := by decide +kernel
theorem dX7_tryAll_236 : decode cX7_tryAll 236 = .ok (.getfield 105, 3) := by decide +kernel
theorem dX7_tryAll_239 : decode cX7_tryAll 239 = .ok (.iload 7, 2) := by decide +kernel
theorem dX7_tryAll_241 : decode cX7_tryAll 241 = .ok (.aload_n 0, 1) := by decide +kernel
theorem dX7_tryAll_242 : decode cX7_tryAll 242 = .ok (.getfield 102, 3) := by decide +kernel
theorem dX7_tryAll_245 : decode cX7_tryAll 245 = .ok (.iload 7, 2) := by decide +kernel
theorem dX7_tryAll_247 : decode cX7_tryAll 247 = .ok (.iaload, 1) := by decide +kernel
theorem dX7_tryAll_248 : decode cX7_tryAll 248 = .ok (.iastore, 1) := by decide +kernel
theorem dX7_tryAll_249 : decode cX7_tryAll 249 = .ok (.iinc 7 1, 3) := by decide +kernel
theorem dX7_tryAll_252 : decode cX7_tryAll 252 = .ok (.goto (-23), 3) := by decide +kernel
theorem dX7_tryAll_255 : decode cX7_tryAll 255 = .ok (.iinc 3 1, 3) := by decide +kernel
theorem dX7_tryAll_258 : decode cX7_tryAll 258 = .ok (.goto (-227), 3) := by decide +kernel
theorem dX7_tryAll_261 : decode cX7_tryAll 261 = .ok (.return_, 1) := by decide +kernel
set_option maxRecDepth 20000 in
theorem ggX7_best_X7_lay : GoodIn wsX7_best wsX7_lay := goodIn_r _ [6, 7, 8, 9, 10, 40, 41, 42, 43, 44, 45, 46, 47, 48, 49, 50, 51, 52, 53, 54, 55, 56, 57, 58, 59, 60, 61, 62, 63, 64, 65, 66, 67, 68, 69, 70, 71, 72, 73, 74, 75, 76, 77, 78, 79, 80, 81] (by decide +kernel) (by decide +kernel)
set_option maxRecDepth 20000 in
theorem gX7_best_X7_lay : GoodIn wsX7_best (wsV RX7 192 RX7 yX7_lay wsX7_lay) := goodIn_app (goodIn_of _ (by decide +kernel)) ggX7_best_X7_lay
set_option maxRecDepth 20000 in
theorem ggX7_best_X7_refused : GoodIn wsX7_best wsX7_refused := goodIn_r _ [14, 15, 40, 41, 42, 43, 44, 45, 46, 47, 48, 49, 50, 51, 52, 53, 54, 55, 56, 57, 58, 59, 60, 61, 62, 63, 64, 65, 66, 67, 68, 69, 70, 71, 72, 73, 74, 75, 76, 77, 78, 79, 80, 81] (by decide +kernel) (by decide +kernel)
set_option maxRecDepth 20000 in
theorem gX7_best_X7_refused : GoodIn wsX7_best (wsV RX7 141 RX7 yX7_refused wsX7_refused) := goodIn_app (goodIn_of _ (by decide +kernel)) ggX7_best_X7_refused
set_option maxRecDepth 20000 in
theorem ggX7_best_X7_tryAll : GoodIn wsX7_best wsX7_tryAll := goodIn_r _ [19, 20, 1, 21, 22, 9, 10, 23, 24, 25, 26, 27, 28, 29, 30, 5, 31, 32, 33, 34, 35, 36, 37, 38, 39, 40, 41, 42, 43, 44, 45, 46, 47, 48, 49, 50, 51, 52, 53, 54, 55, 56, 57, 58, 59, 60, 61, 62, 63, 64, 65, 66, 67, 68, 69, 70, 71, 72, 73, 74, 75, 76, 77, 78, 79, 80, 81] (by decide +kernel) (by decide +kernel)
set_option maxRecDepth 20000 in
theorem gX7_best_X7_tryAll : GoodIn wsX7_best (wsV RX7 196 RX7 yX7_tryAll wsX7_tryAll) := goodIn_app (goodIn_of _ (by decide +kernel)) ggX7_best_X7_tryAll
theorem dX7_best_0 : decode cX7_best 0 = .ok (.aload_n 0, 1) := by decide +kernel
theorem dX7_best_1 : decode cX7_best 1 = .ok (.invokevirtual 192, 3) := by decide +kernel
theorem dX7_best_4 : decode cX7_best 4 = .ok (.istore_n 1, 1) := by decide +kernel
theorem dX7_best_5 : decode cX7_best 5 = .ok (.aload_n 0, 1) := by decide +kernel
theorem dX7_best_6 : decode cX7_best 6 = .ok (.iload_n 1, 1) := by decide +kernel
theorem dX7_best_7 : decode cX7_best 7 = .ok (.iconst 5, 1) := by decide +kernel
theorem dX7_best_8 : decode cX7_best 8 = .ok (.if_icmp .le 7, 3) := by decide +kernel
theorem dX7_best_11 : decode cX7_best 11 = .ok (.iconst 1, 1) := by decide +kernel
theorem dX7_best_12 : decode cX7_best 12 = .ok (.goto 4, 3) := by decide +kernel
theorem dX7_best_15 : decode cX7_best 15 = .ok (.iconst 0, 1) := by decide +kernel
theorem dX7_best_16 : decode cX7_best 16 = .ok (.invokevirtual 141, 3) := by decide +kernel
theorem dX7_best_19 : decode cX7_best 19 = .ok (.ifCond .eq 5, 3) := by decide +kernel
theorem dX7_best_22 : decode cX7_best 22 = .ok (.iconst 0, 1) := by decide +kernel
theorem dX7_best_23 : decode cX7_best 23 = .ok (.ireturn, 1) := by decide +kernel
theorem dX7_best_24 : decode cX7_best 24 = .ok (.aload_n 0, 1) := by decide +kernel
theorem dX7_best_25 : decode cX7_best 25 = .ok (.iload_n 1, 1) := by decide +kernel
theorem dX7_best_26 : decode cX7_best 26 = .ok (.invokevirtual 196, 3) := by decide +kernel
theorem dX7_best_29 : decode cX7_best 29 = .ok (.aload_n 0, 1) := by decide +kernel
theorem dX7_best_30 : decode cX7_best 30 = .ok (.getfield 188, 3) := by decide +kernel
theorem dX7_best_33 : decode cX7_best 33 = .ok (.ireturn, 1) := by decide +kernel
set_option maxRecDepth 20000 in
theorem ggX7_bestAnew_X7_best : GoodIn wsX7_bestAnew wsX7_best := goodIn_r _ [5, 6, 7, 8, 9, 4, 10, 11, 12, 13, 14, 15, 16, 17, 18, 19, 20, 21, 22, 23, 24, 25, 26, 27, 28, 29, 30, 31, 32, 33, 34, 35, 36, 37, 38, 39, 40, 41, 42, 43, 44, 45, 46, 47, 48, 49, 50, 51, 52, 53, 54, 55, 56, 57, 58, 59, 60, 61, 62, 63, 64, 65, 66, 67, 68, 69, 70, 71, 72, 73, 74, 75, 76, 77, 78, 79, 80, 81, 82, 83, 84, 85] (by decide +kernel) (by decide +kernel)
set_option maxRecDepth 20000 in
theorem gX7_bestAnew_X7_best : GoodIn wsX7_bestAnew (wsV RX7 199 RX7 yX7_best wsX7_best) := goodIn_app (goodIn_of _ (by decide +kernel)) ggX7_bestAnew_X7_best
theorem dX7_bestAnew_0 : decode cX7_bestAnew 0 = .ok (.aload_n 0, 1) := by decide +kernel
theorem dX7_bestAnew_1 : decode cX7_bestAnew 1 = .ok (.invokevirtual 199, 3) := by decide +kernel
theorem dX7_bestAnew_4 : decode cX7_bestAnew 4 = .ok (.ireturn, 1) := by decide +kernel
set_option maxRecDepth 20000 in
theorem ggX7_match_X7_lay : GoodIn wsX7_match wsX7_lay := goodIn_r _ [8, 9, 10, 11, 3, 73, 74, 75, 76, 77, 78, 79, 80, 81, 82, 83, 84, 85, 86, 87, 88, 89, 90, 91, 92, 93, 94, 95, 96, 97, 98, 99, 100, 101, 102, 103, 104, 105, 106, 107, 108, 109, 110, 111, 112, 113, 114] (by decide +kernel) (by decide +kernel)
set_option maxRecDepth 20000 in
theorem gX7_match_X7_lay : GoodIn wsX7_match (wsV RX7 192 RX7 yX7_lay wsX7_lay) := goodIn_app (goodIn_of _ (by decide +kernel)) ggX7_match_X7_lay
set_option maxRecDepth 20000 in
theorem ggX7_match_X7_refused : GoodIn wsX7_match wsX7_refused := goodIn_r _ [15, 16, 73, 74, 75, 76, 77, 78, 79, 80, 81, 82, 83, 84, 85, 86, 87, 88, 89, 90, 91, 92, 93, 94, 95, 96, 97, 98, 99, 100, 101, 102, 103, 104, 105, 106, 107, 108, 109, 110, 111, 112, 113, 114] (by decide +kernel) (by decide +kernel)
set_option maxRecDepth 20000 in
theorem gX7_match_X7_refused : GoodIn wsX7_match (wsV RX7 141 RX7 yX7_refused wsX7_refused) := goodIn_app (goodIn_of _ (by decide +kernel)) ggX7_match_X7_refused
set_option maxRecDepth 20000 in
theorem ggX7_match_X7_tryAll : GoodIn wsX7_match wsX7_tryAll := goodIn_r _ [20, 2, 21, 22, 23, 11, 3, 24, 25, 26, 27, 1, 28, 29, 30, 7, 31, 32, 33, 34, 35, 36, 37, 38, 39, 73, 74, 75, 76, 77, 78, 79, 80, 81, 82, 83, 84, 85, 86, 87, 88, 89, 90, 91, 92, 93, 94, 95, 96, 97, 98, 99, 100, 101, 102, 103, 104, 105, 106, 107, 108, 109, 110, 111, 112, 113, 114] (by decide +kernel) (by decide +kernel)
set_option maxRecDepth 20000 in
theorem gX7_match_X7_tryAll : GoodIn wsX7_match (wsV RX7 196 RX7 yX7_tryAll wsX7_tryAll) := goodIn_app (goodIn_of _ (by decide +kernel)) ggX7_match_X7_tryAll
set_option maxRecDepth 20000 in
theorem ggX7_match_X7_give : GoodIn wsX7_match wsX7_give := goodIn_r _ [43, 10, 44, 45, 25, 46, 23, 11, 47, 28, 29, 30, 7, 31, 32, 48, 49, 50, 51, 52, 37, 53, 54, 55, 56, 57, 58, 59, 60, 61, 62, 63, 64, 65, 66, 67, 68, 69, 70, 71, 72, 33, 34, 35, 36, 38, 39, 73, 74, 75, 76, 77, 78, 79, 80, 81, 82, 83, 84, 85, 86, 87, 88, 89, 90, 91, 92, 93, 94, 95, 96, 97, 98, 99, 100, 101, 102, 103, 104, 105, 106, 107, 108, 109, 110, 111, 112, 113, 114] (by decide +kernel) (by decide +kernel)
set_option maxRecDepth 20000 in
theorem gX7_match_X7_give : GoodIn wsX7_match (wsV RX7 184 RX7 yX7_give wsX7_give) := goodIn_app (goodIn_of _ (by decide +kernel)) ggX7_match_X7_give
theorem dX7_match_0 : decode cX7_match 0 = .ok (.aload_n 0, 1) := by decide +kernel
theorem dX7_match_1 : decode cX7_match 1 = .ok (.invokevirtual 192, 3) := by decide +kernel
theorem dX7_match_4 : decode cX7_match 4 = .ok (.istore_n 1, 1) := by decide +kernel
theorem dX7_match_5 : decode cX7_match 5 = .ok (.aload_n 0, 1) := by decide +kernel
theorem dX7_match_6 : decode cX7_match 6 = .ok (.iload_n 1, 1) := by decide +kernel
theorem dX7_match_7 : decode cX7_match 7 = .ok (.iconst 5, 1) := by decide +kernel
theorem dX7_match_8 : decode cX7_match 8 = .ok (.if_icmp .le 7, 3) := by decide +kernel
theorem dX7_match_11 : decode cX7_match 11 = .ok (.iconst 1, 1) := by decide +kernel
theorem dX7_match_12 : decode cX7_match 12 = .ok (.goto 4, 3) := by decide +kernel
theorem dX7_match_15 : decode cX7_match 15 = .ok (.iconst 0, 1) := by decide +kernel
theorem dX7_match_16 : decode cX7_match 16 = .ok (.invokevirtual 141, 3) := by decide +kernel
theorem dX7_match_19 : decode cX7_match 19 = .ok (.ifCond .eq 5, 3) := by decide +kernel
theorem dX7_match_22 : decode cX7_match 22 = .ok (.iconst 0, 1) := by decide +kernel
theorem dX7_match_23 : decode cX7_match 23 = .ok (.ireturn, 1) := by decide +kernel
theorem dX7_match_24 : decode cX7_match 24 = .ok (.aload_n 0, 1) := by decide +kernel
theorem dX7_match_25 : decode cX7_match 25 = .ok (.iload_n 1, 1) := by decide +kernel
theorem dX7_match_26 : decode cX7_match 26 = .ok (.invokevirtual 196, 3) := by decide +kernel
theorem dX7_match_29 : decode cX7_match 29 = .ok (.iconst 0, 1) := by decide +kernel
theorem dX7_match_30 : decode cX7_match 30 = .ok (.istore_n 2, 1) := by decide +kernel
theorem dX7_match_31 : decode cX7_match 31 = .ok (.iconst 0, 1) := by decide +kernel
theorem dX7_match_32 : decode cX7_match 32 = .ok (.istore_n 3, 1) := by decide +kernel
theorem dX7_match_33 : decode cX7_match 33 = .ok (.iload_n 3, 1) := by decide +kernel
theorem dX7_match_34 : decode cX7_match 34 = .ok (.iload_n 1, 1) := by decide +kernel
theorem dX7_match_35 : decode cX7_match 35 = .ok (.if_icmp .ge 41, 3) := by decide +kernel
theorem dX7_match_38 : decode cX7_match 38 = .ok (.aload_n 0, 1) := by decide +kernel
theorem dX7_match_39 : decode cX7_match 39 = .ok (.getfield 105, 3) := by decide +kernel
theorem dX7_match_42 : decode cX7_match 42 = .ok (.iload_n 3, 1) := by decide +kernel
theorem dX7_match_43 : decode cX7_match 43 = .ok (.iaload, 1) := by decide +kernel
theorem dX7_match_44 : decode cX7_match 44 = .ok (.aload_n 0, 1) := by decide +kernel
theorem dX7_match_45 : decode cX7_match 45 = .ok (.getfield 127, 3) := by decide +kernel
theorem dX7_match_48 : decode cX7_match 48 = .ok (.if_icmp .ge 22, 3) := by decide +kernel
theorem dX7_match_51 : decode cX7_match 51 = .ok (.aload_n 0, 1) := by decide +kernel
theorem dX7_match_52 : decode cX7_match 52 = .ok (.aload_n 0, 1) := by decide +kernel
theorem dX7_match_53 : decode cX7_match 53 = .ok (.getfield 99, 3) := by decide +kernel
theorem dX7_match_56 : decode cX7_match 56 = .ok (.iload_n 3, 1) := by decide +kernel
theorem dX7_match_57 : decode cX7_match 57 = .ok (.iaload, 1) := by decide +kernel
theorem dX7_match_58 : decode cX7_match 58 = .ok (.aload_n 0, 1) := by decide +kernel
theorem dX7_match_59 : decode cX7_match 59 = .ok (.getfield 105, 3) := by decide +kernel
theorem dX7_match_62 : decode cX7_match 62 = .ok (.iload_n 3, 1) := by decide +kernel
theorem dX7_match_63 : decode cX7_match 63 = .ok (.iaload, 1) := by decide +kernel
theorem dX7_match_64 : decode cX7_match 64 = .ok (.invokevirtual 184, 3) := by decide +kernel
theorem dX7_match_67 : decode cX7_match 67 = .ok (.iinc 2 1, 3) := by decide +kernel
theorem dX7_match_70 : decode cX7_match 70 = .ok (.iinc 3 1, 3) := by decide +kernel
theorem dX7_match_73 : decode cX7_match 73 = .ok (.goto (-40), 3) := by decide +kernel
theorem dX7_match_76 : decode cX7_match 76 = .ok (.iload_n 2, 1) := by decide +kernel
theorem dX7_match_77 : decode cX7_match 77 = .ok (.ireturn, 1) := by decide +kernel
theorem dX7_canShare_0 : decode cX7_canShare 0 = .ok (.iconst 0, 1) := by decide +kernel
theorem dX7_canShare_1 : decode cX7_canShare 1 = .ok (.istore_n 2, 1) := by decide +kernel
theorem dX7_canShare_2 : decode cX7_canShare 2 = .ok (.aload_n 0, 1) := by decide +kernel
theorem dX7_canShare_3 : decode cX7_canShare 3 = .ok (.getfield 33, 3) := by decide +kernel
theorem dX7_canShare_6 : decode cX7_canShare 6 = .ok (.iload_n 1, 1) := by decide +kernel
theorem dX7_canShare_7 : decode cX7_canShare 7 = .ok (.baload, 1) := by decide +kernel
theorem dX7_canShare_8 : decode cX7_canShare 8 = .ok (.ifCond .ne 16, 3) := by decide +kernel
theorem dX7_canShare_11 : decode cX7_canShare 11 = .ok (.aload_n 0, 1) := by decide +kernel
theorem dX7_canShare_12 : decode cX7_canShare 12 = .ok (.getfield 36, 3) := by decide +kernel
theorem dX7_canShare_15 : decode cX7_canShare 15 = .ok (.iload_n 1, 1) := by decide +kernel
theorem dX7_canShare_16 : decode cX7_canShare 16 = .ok (.iaload, 1) := by decide +kernel
theorem dX7_canShare_17 : decode cX7_canShare 17 = .ok (.ifCond .le 7, 3) := by decide +kernel
theorem dX7_canShare_20 : decode cX7_canShare 20 = .ok (.iconst 1, 1) := by decide +kernel
theorem dX7_canShare_21 : decode cX7_canShare 21 = .ok (.goto 4, 3) := by decide +kernel
theorem dX7_canShare_24 : decode cX7_canShare 24 = .ok (.iconst 0, 1) := by decide +kernel
theorem dX7_canShare_25 : decode cX7_canShare 25 = .ok (.istore_n 3, 1) := by decide +kernel
theorem dX7_canShare_26 : decode cX7_canShare 26 = .ok (.bipush 8, 2) := by decide +kernel
theorem dX7_canShare_28 : decode cX7_canShare 28 = .ok (.iload_n 1, 1) := by decide +kernel
theorem dX7_canShare_29 : decode cX7_canShare 29 = .ok (.imul, 1) := by decide +kernel
theorem dX7_canShare_30 : decode cX7_canShare 30 = .ok (.istore 4, 2) := by decide +kernel
theorem dX7_canShare_32 : decode cX7_canShare 32 = .ok (.iload 4, 2) := by decide +kernel
theorem dX7_canShare_34 : decode cX7_canShare 34 = .ok (.bipush 8, 2) := by decide +kernel
theorem dX7_canShare_36 : decode cX7_canShare 36 = .ok (.iload_n 1, 1) := by decide +kernel
theorem dX7_canShare_37 : decode cX7_canShare 37 = .ok (.imul, 1) := by decide +kernel
theorem dX7_canShare_38 : decode cX7_canShare 38 = .ok (.aload_n 0, 1) := by decide +kernel
theorem dX7_canShare_39 : decode cX7_canShare 39 = .ok (.getfield 36, 3) := by decide +kernel
theorem dX7_canShare_42 : decode cX7_canShare 42 = .ok (.iload_n 1, 1) := by decide +kernel
theorem dX7_canShare_43 : decode cX7_canShare 43 = .ok (.iaload, 1) := by decide +kernel
theorem dX7_canShare_44 : decode cX7_canShare 44 = .ok (.iadd, 1) := by decide +kernel
theorem dX7_canShare_45 : decode cX7_canShare 45 = .ok (.if_icmp .ge 62, 3) := by decide +kernel
theorem dX7_canShare_48 : decode cX7_canShare 48 = .ok (.aload_n 0, 1) := by decide +kernel
theorem dX7_canShare_49 : decode cX7_canShare 49 = .ok (.getfield 42, 3) := by decide +kernel
theorem dX7_canShare_52 : decode cX7_canShare 52 = .ok (.iload 4, 2) := by decide +kernel
theorem dX7_canShare_54 : decode cX7_canShare 54 = .ok (.iaload, 1) := by decide +kernel
theorem dX7_canShare_55 : decode cX7_canShare 55 = .ok (.istore 5, 2) := by decide +kernel
theorem dX7_canShare_57 : decode cX7_canShare 57 = .ok (.iload_n 3, 1) := by decide +kernel
theorem dX7_canShare_58 : decode cX7_canShare 58 = .ok (.ifCond .eq 26, 3) := by decide +kernel
theorem dX7_canShare_61 : decode cX7_canShare 61 = .ok (.iload 5, 2) := by decide +kernel
theorem dX7_canShare_63 : decode cX7_canShare 63 = .ok (.iconst (-1), 1) := by decide +kernel
theorem dX7_canShare_64 : decode cX7_canShare 64 = .ok (.if_icmp .eq 20, 3) := by decide +kernel
theorem dX7_canShare_67 : decode cX7_canShare 67 = .ok (.aload_n 0, 1) := by decide +kernel
theorem dX7_canShare_68 : decode cX7_canShare 68 = .ok (.getfield 78, 3) := by decide +kernel
theorem dX7_canShare_71 : decode cX7_canShare 71 = .ok (.iload 5, 2) := by decide +kernel
theorem dX7_canShare_73 : decode cX7_canShare 73 = .ok (.bipush 100, 2) := by decide +kernel
theorem dX7_canShare_75 : decode cX7_canShare 75 = .ok (.irem, 1) := by decide +kernel
theorem dX7_canShare_76 : decode cX7_canShare 76 = .ok (.baload, 1) := by decide +kernel
theorem dX7_canShare_77 : decode cX7_canShare 77 = .ok (.ifCond .eq 7, 3) := by decide +kernel
theorem dX7_canShare_80 : decode cX7_canShare 80 = .ok (.iconst 1, 1) := by decide +kernel
theorem dX7_canShare_81 : decode cX7_canShare 81 = .ok (.goto 4, 3) := by decide +kernel
theorem dX7_canShare_84 : decode cX7_canShare 84 = .ok (.iconst 0, 1) := by decide +kernel
theorem dX7_canShare_85 : decode cX7_canShare 85 = .ok (.istore_n 3, 1) := by decide +kernel
theorem dX7_canShare_86 : decode cX7_canShare 86 = .ok (.iload_n 2, 1) := by decide +kernel
theorem dX7_canShare_87 : decode cX7_canShare 87 = .ok (.iload 5, 2) := by decide +kernel
theorem dX7_canShare_89 : decode cX7_canShare 89 = .ok (.bipush 100, 2) := by decide +kernel
theorem dX7_canShare_91 : decode cX7_canShare 91 = .ok (.if_icmp .lt 7, 3) := by decide +kernel
theorem dX7_canShare_94 : decode cX7_canShare 94 = .ok (.iconst 1, 1) := by decide +kernel
theorem dX7_canShare_95 : decode cX7_canShare 95 = .ok (.goto 4, 3) := by decide +kernel
theorem dX7_canShare_98 : decode cX7_canShare 98 = .ok (.iconst 0, 1) := by decide +kernel
theorem dX7_canShare_99 : decode cX7_canShare 99 = .ok (.iadd, 1) := by decide +kernel
theorem dX7_canShare_100 : decode cX7_canShare 100 = .ok (.istore_n 2, 1) := by decide +kernel
theorem dX7_canShare_101 : decode cX7_canShare 101 = .ok (.iinc 4 1, 3) := by decide +kernel
theorem dX7_canShare_104 : decode cX7_canShare 104 = .ok (.goto (-72), 3) := by decide +kernel
theorem dX7_canShare_107 : decode cX7_canShare 107 = .ok (.iload_n 3, 1) := by decide +kernel
theorem dX7_canShare_108 : decode cX7_canShare 108 = .ok (.ifCond .eq 12, 3) := by decide +kernel
theorem dX7_canShare_111 : decode cX7_canShare 111 = .ok (.iload_n 2, 1) := by decide +kernel
theorem dX7_canShare_112 : decode cX7_canShare 112 = .ok (.iconst 3, 1) := by decide +kernel
theorem dX7_canShare_113 : decode cX7_canShare 113 = .ok (.if_icmp .gt 7, 3) := by decide +kernel
theorem dX7_canShare_116 : decode cX7_canShare 116 = .ok (.iconst 1, 1) := by decide +kernel
theorem dX7_canShare_117 : decode cX7_canShare 117 = .ok (.goto 4, 3) := by decide +kernel
theorem dX7_canShare_120 : decode cX7_canShare 120 = .ok (.iconst 0, 1) := by decide +kernel
theorem dX7_canShare_121 : decode cX7_canShare 121 = .ok (.ireturn, 1) := by decide +kernel
set_option maxRecDepth 20000 in
theorem ggX7_tryRow_X7_wayOf : GoodIn wsX7_tryRow wsX7_wayOf := goodIn_r _ [14, 15, 16, 17, 18, 19, 20, 21, 22, 23, 24, 25, 26, 27, 28, 29, 30, 31, 32, 33, 34, 35, 36, 37, 38, 39, 40, 41, 42, 43, 44, 45, 46, 47, 48, 49, 50, 51, 52, 53, 54, 55, 56, 57] (by decide +kernel) (by decide +kernel)
set_option maxRecDepth 20000 in
theorem gX7_tryRow_X7_wayOf : GoodIn wsX7_tryRow (wsV RX7 144 RX7 yX7_wayOf wsX7_wayOf) := goodIn_app (goodIn_of _ (by decide +kernel)) ggX7_tryRow_X7_wayOf
theorem dX7_tryRow_0 : decode cX7_tryRow 0 = .ok (.iconst 0, 1) := by decide +kernel
theorem dX7_tryRow_1 : decode cX7_tryRow 1 = .ok (.istore 5, 2) := by decide +kernel
theorem dX7_tryRow_3 : decode cX7_tryRow 3 = .ok (.bipush 8, 2) := by decide +kernel
theorem dX7_tryRow_5 : decode cX7_tryRow 5 = .ok (.iload_n 1, 1) := by decide +kernel
theorem dX7_tryRow_6 : decode cX7_tryRow 6 = .ok (.imul, 1) := by decide +kernel
theorem dX7_tryRow_7 : decode cX7_tryRow 7 = .ok (.istore 6, 2) := by decide +kernel
theorem dX7_tryRow_9 : decode cX7_tryRow 9 = .ok (.iload 5, 2) := by decide +kernel
theorem dX7_tryRow_11 : decode cX7_tryRow 11 = .ok (.aload_n 0, 1) := by decide +kernel
theorem dX7_tryRow_12 : decode cX7_tryRow 12 = .ok (.getfield 36, 3) := by decide +kernel
theorem dX7_tryRow_15 : decode cX7_tryRow 15 = .ok (.iload_n 1, 1) := by decide +kernel
theorem dX7_tryRow_16 : decode cX7_tryRow 16 = .ok (.iaload, 1) := by decide +kernel
theorem dX7_tryRow_17 : decode cX7_tryRow 17 = .ok (.iload_n 2, 1) := by decide +kernel
theorem dX7_tryRow_18 : decode cX7_tryRow 18 = .ok (.iconst (-1), 1) := by decide +kernel
theorem dX7_tryRow_19 : decode cX7_tryRow 19 = .ok (.if_icmp .ne 7, 3) := by decide +kernel
theorem dX7_tryRow_22 : decode cX7_tryRow 22 = .ok (.iconst 0, 1) := by decide +kernel
theorem dX7_tryRow_23 : decode cX7_tryRow 23 = .ok (.goto 4, 3) := by decide +kernel
theorem dX7_tryRow_26 : decode cX7_tryRow 26 = .ok (.iconst 2, 1) := by decide +kernel
theorem dX7_tryRow_27 : decode cX7_tryRow 27 = .ok (.iadd, 1) := by decide +kernel
theorem dX7_tryRow_28 : decode cX7_tryRow 28 = .ok (.if_icmp .ge 194, 3) := by decide +kernel
theorem dX7_tryRow_31 : decode cX7_tryRow 31 = .ok (.iload_n 2, 1) := by decide +kernel
theorem dX7_tryRow_32 : decode cX7_tryRow 32 = .ok (.iconst (-1), 1) := by decide +kernel
theorem dX7_tryRow_33 : decode cX7_tryRow 33 = .ok (.if_icmp .eq 13, 3) := by decide +kernel
theorem dX7_tryRow_36 : decode cX7_tryRow 36 = .ok (.iload 5, 2) := by decide +kernel
theorem dX7_tryRow_38 : decode cX7_tryRow 38 = .ok (.iload_n 3, 1) := by decide +kernel
theorem dX7_tryRow_39 : decode cX7_tryRow 39 = .ok (.if_icmp .ne 7, 3) := by decide +kernel
theorem dX7_tryRow_42 : decode cX7_tryRow 42 = .ok (.iconst 1, 1) := by decide +kernel
theorem dX7_tryRow_43 : decode cX7_tryRow 43 = .ok (.goto 4, 3) := by decide +kernel
theorem dX7_tryRow_46 : decode cX7_tryRow 46 = .ok (.iconst 0, 1) := by decide +kernel
theorem dX7_tryRow_47 : decode cX7_tryRow 47 = .ok (.istore 7, 2) := by decide +kernel
theorem dX7_tryRow_49 : decode cX7_tryRow 49 = .ok (.iload_n 2, 1) := by decide +kernel
theorem dX7_tryRow_50 : decode cX7_tryRow 50 = .ok (.iconst (-1), 1) := by decide +kernel
theorem dX7_tryRow_51 : decode cX7_tryRow 51 = .ok (.if_icmp .eq 14, 3) := by decide +kernel
theorem dX7_tryRow_54 : decode cX7_tryRow 54 = .ok (.iload 5, 2) := by decide +kernel
theorem dX7_tryRow_56 : decode cX7_tryRow 56 = .ok (.iload 4, 2) := by decide +kernel
theorem dX7_tryRow_58 : decode cX7_tryRow 58 = .ok (.if_icmp .ne 7, 3) := by decide +kernel
theorem dX7_tryRow_61 : decode cX7_tryRow 61 = .ok (.iconst 1, 1) := by decide +kernel
theorem dX7_tryRow_62 : decode cX7_tryRow 62 = .ok (.goto 4, 3) := by decide +kernel
theorem dX7_tryRow_65 : decode cX7_tryRow 65 = .ok (.iconst 0, 1) := by decide +kernel
theorem dX7_tryRow_66 : decode cX7_tryRow 66 = .ok (.istore 8, 2) := by decide +kernel
theorem dX7_tryRow_68 : decode cX7_tryRow 68 = .ok (.aload_n 0, 1) := by decide +kernel
theorem dX7_tryRow_69 : decode cX7_tryRow 69 = .ok (.getfield 108, 3) := by decide +kernel
theorem dX7_tryRow_72 : decode cX7_tryRow 72 = .ok (.iload 5, 2) := by decide +kernel
theorem dX7_tryRow_74 : decode cX7_tryRow 74 = .ok (.iload 7, 2) := by decide +kernel
theorem dX7_tryRow_76 : decode cX7_tryRow 76 = .ok (.ifCond .eq 12, 3) := by decide +kernel
theorem dX7_tryRow_79 : decode cX7_tryRow 79 = .ok (.aload_n 0, 1) := by decide +kernel
theorem dX7_tryRow_80 : decode cX7_tryRow 80 = .ok (.getfield 69, 3) := by decide +kernel
theorem dX7_tryRow_83 : decode cX7_tryRow 83 = .ok (.iload_n 2, 1) := by decide +kernel
theorem dX7_tryRow_84 : decode cX7_tryRow 84 = .ok (.iaload, 1) := by decide +kernel
theorem dX7_tryRow_85 : decode cX7_tryRow 85 = .ok (.goto 24, 3) := by decide +kernel
theorem dX7_tryRow_88 : decode cX7_tryRow 88 = .ok (.iload 8, 2) := by decide +kernel
theorem dX7_tryRow_90 : decode cX7_tryRow 90 = .ok (.ifCond .eq 12, 3) := by decide +kernel
theorem dX7_tryRow_93 : decode cX7_tryRow 93 = .ok (.aload_n 0, 1) := by decide +kernel
theorem dX7_tryRow_94 : decode cX7_tryRow 94 = .ok (.getfield 72, 3) := by decide +kernel
theorem dX7_tryRow_97 : decode cX7_tryRow 97 = .ok (.iload_n 2, 1) := by decide +kernel
theorem dX7_tryRow_98 : decode cX7_tryRow 98 = .ok (.iaload, 1) := by decide +kernel
theorem dX7_tryRow_99 : decode cX7_tryRow 99 = .ok (.goto 10, 3) := by decide +kernel
theorem dX7_tryRow_102 : decode cX7_tryRow 102 = .ok (.aload_n 0, 1) := by decide +kernel
theorem dX7_tryRow_103 : decode cX7_tryRow 103 = .ok (.getfield 39, 3) := by decide +kernel
theorem dX7_tryRow_106 : decode cX7_tryRow 106 = .ok (.iload 6, 2) := by decide +kernel
theorem dX7_tryRow_108 : decode cX7_tryRow 108 = .ok (.iaload, 1) := by decide +kernel
theorem dX7_tryRow_109 : decode cX7_tryRow 109 = .ok (.iastore, 1) := by decide +kernel
theorem dX7_tryRow_110 : decode cX7_tryRow 110 = .ok (.aload_n 0, 1) := by decide +kernel
theorem dX7_tryRow_111 : decode cX7_tryRow 111 = .ok (.getfield 111, 3) := by decide +kernel
theorem dX7_tryRow_114 : decode cX7_tryRow 114 = .ok (.iload 5, 2) := by decide +kernel
theorem dX7_tryRow_116 : decode cX7_tryRow 116 = .ok (.iload 7, 2) := by decide +kernel
theorem dX7_tryRow_118 : decode cX7_tryRow 118 = .ok (.ifCond .eq 7, 3) := by decide +kernel
theorem dX7_tryRow_121 : decode cX7_tryRow 121 = .ok (.iload_n 2, 1) := by decide +kernel
theorem dX7_tryRow_122 : decode cX7_tryRow 122 = .ok (.goto 22, 3) := by decide +kernel
theorem dX7_tryRow_125 : decode cX7_tryRow 125 = .ok (.iload 8, 2) := by decide +kernel
theorem dX7_tryRow_127 : decode cX7_tryRow 127 = .ok (.ifCond .eq 10, 3) := by decide +kernel
theorem dX7_tryRow_130 : decode cX7_tryRow 130 = .ok (.bipush 100, 2) := by decide +kernel
theorem dX7_tryRow_132 : decode cX7_tryRow 132 = .ok (.iload_n 2, 1) := by decide +kernel
theorem dX7_tryRow_133 : decode cX7_tryRow 133 = .ok (.iadd, 1) := by decide +kernel
theorem dX7_tryRow_134 : decode cX7_tryRow 134 = .ok (.goto 10, 3) := by decide +kernel
theorem dX7_tryRow_137 : decode cX7_tryRow 137 = .ok (.aload_n 0, 1) := by decide +kernel
theorem dX7_tryRow_138 : decode cX7_tryRow 138 = .ok (.getfield 42, 3) := by decide +kernel
theorem dX7_tryRow_141 : decode cX7_tryRow 141 = .ok (.iload 6, 2) := by decide +kernel
theorem dX7_tryRow_143 : decode cX7_tryRow 143 = .ok (.iaload, 1) := by decide +kernel
theorem dX7_tryRow_144 : decode cX7_tryRow 144 = .ok (.iastore, 1) := by decide +kernel
theorem dX7_tryRow_145 : decode cX7_tryRow 145 = .ok (.aload_n 0, 1) := by decide +kernel
theorem dX7_tryRow_146 : decode cX7_tryRow 146 = .ok (.getfield 114, 3) := by decide +kernel
theorem dX7_tryRow_149 : decode cX7_tryRow 149 = .ok (.iload 5, 2) := by decide +kernel
theorem dX7_tryRow_151 : decode cX7_tryRow 151 = .ok (.iload 5, 2) := by decide +kernel
theorem dX7_tryRow_153 : decode cX7_tryRow 153 = .ok (.ifCond .ne 12, 3) := by decide +kernel
theorem dX7_tryRow_156 : decode cX7_tryRow 156 = .ok (.aload_n 0, 1) := by decide +kernel
theorem dX7_tryRow_157 : decode cX7_tryRow 157 = .ok (.getfield 45, 3) := by decide +kernel
theorem dX7_tryRow_160 : decode cX7_tryRow 160 = .ok (.iload_n 1, 1) := by decide +kernel
theorem dX7_tryRow_161 : decode cX7_tryRow 161 = .ok (.iaload, 1) := by decide +kernel
theorem dX7_tryRow_162 : decode cX7_tryRow 162 = .ok (.goto 33, 3) := by decide +kernel
theorem dX7_tryRow_165 : decode cX7_tryRow 165 = .ok (.aload_n 0, 1) := by decide +kernel
theorem dX7_tryRow_166 : decode cX7_tryRow 166 = .ok (.getfield 114, 3) := by decide +kernel
theorem dX7_tryRow_169 : decode cX7_tryRow 169 = .ok (.iload 5, 2) := by decide +kernel
theorem dX7_tryRow_171 : decode cX7_tryRow 171 = .ok (.iconst 1, 1) := by decide +kernel
theorem dX7_tryRow_172 : decode cX7_tryRow 172 = .ok (.isub, 1) := by decide +kernel
theorem dX7_tryRow_173 : decode cX7_tryRow 173 = .ok (.iaload, 1) := by decide +kernel
theorem dX7_tryRow_174 : decode cX7_tryRow 174 = .ok (.aload_n 0, 1) := by decide +kernel
theorem dX7_tryRow_175 : decode cX7_tryRow 175 = .ok (.aload_n 0, 1) := by decide +kernel
theorem dX7_tryRow_176 : decode cX7_tryRow 176 = .ok (.getfield 108, 3) := by decide +kernel
theorem dX7_tryRow_179 : decode cX7_tryRow 179 = .ok (.iload 5, 2) := by decide +kernel
theorem dX7_tryRow_181 : decode cX7_tryRow 181 = .ok (.iconst 1, 1) := by decide +kernel
theorem dX7_tryRow_182 : decode cX7_tryRow 182 = .ok (.isub, 1) := by decide +kernel
theorem dX7_tryRow_183 : decode cX7_tryRow 183 = .ok (.iaload, 1) := by decide +kernel
theorem dX7_tryRow_184 : decode cX7_tryRow 184 = .ok (.aload_n 0, 1) := by decide +kernel
theorem dX7_tryRow_185 : decode cX7_tryRow 185 = .ok (.getfield 108, 3) := by decide +kernel
theorem dX7_tryRow_188 : decode cX7_tryRow 188 = .ok (.iload 5, 2) := by decide +kernel
theorem dX7_tryRow_190 : decode cX7_tryRow 190 = .ok (.iaload, 1) := by decide +kernel
theorem dX7_tryRow_191 : decode cX7_tryRow 191 = .ok (.invokevirtual 144, 3) := by decide +kernel
theorem dX7_tryRow_194 : decode cX7_tryRow 194 = .ok (.iadd, 1) := by decide +kernel
theorem dX7_tryRow_195 : decode cX7_tryRow 195 = .ok (.iastore, 1) := by decide +kernel
theorem dX7_tryRow_196 : decode cX7_tryRow 196 = .ok (.iload 6, 2) := by decide +kernel
theorem dX7_tryRow_198 : decode cX7_tryRow 198 = .ok (.iload 7, 2) := by decide +kernel
theorem dX7_tryRow_200 : decode cX7_tryRow 200 = .ok (.ifCond .ne 8, 3) := by decide +kernel
theorem dX7_tryRow_203 : decode cX7_tryRow 203 = .ok (.iload 8, 2) := by decide +kernel
theorem dX7_tryRow_205 : decode cX7_tryRow 205 = .ok (.ifCond .eq 7, 3) := by decide +kernel
theorem dX7_tryRow_208 : decode cX7_tryRow 208 = .ok (.iconst 0, 1) := by decide +kernel
theorem dX7_tryRow_209 : decode cX7_tryRow 209 = .ok (.goto 4, 3) := by decide +kernel
theorem dX7_tryRow_212 : decode cX7_tryRow 212 = .ok (.iconst 1, 1) := by decide +kernel
theorem dX7_tryRow_213 : decode cX7_tryRow 213 = .ok (.iadd, 1) := by decide +kernel
theorem dX7_tryRow_214 : decode cX7_tryRow 214 = .ok (.istore 6, 2) := by decide +kernel
theorem dX7_tryRow_216 : decode cX7_tryRow 216 = .ok (.iinc 5 1, 3) := by decide +kernel
theorem dX7_tryRow_219 : decode cX7_tryRow 219 = .ok (.goto (-210), 3) := by decide +kernel
theorem dX7_tryRow_222 : decode cX7_tryRow 222 = .ok (.iload 5, 2) := by decide +kernel
theorem dX7_tryRow_224 : decode cX7_tryRow 224 = .ok (.ireturn, 1) := by decide +kernel
set_option maxRecDepth 20000 in
theorem ggX7_keeps_X7_wayOf : GoodIn wsX7_keeps wsX7_wayOf := goodIn_r _ [11, 12, 13, 14, 15, 16, 17, 18, 19, 20, 21, 22, 23, 24, 25, 26, 27, 28, 29, 30, 31, 32, 33, 34, 35, 36, 37, 38, 39, 40, 41, 42, 43, 44, 45, 46, 47, 48, 49, 50, 51, 52, 53, 54] (by decide +kernel) (by decide +kernel)
set_option maxRecDepth 20000 in
theorem gX7_keeps_X7_wayOf : GoodIn wsX7_keeps (wsV RX7 144 RX7 yX7_wayOf wsX7_wayOf) := goodIn_app (goodIn_of _ (by decide +kernel)) ggX7_keeps_X7_wayOf
theorem dX7_keeps_0 : decode cX7_keeps 0 = .ok (.iconst 0, 1) := by decide +kernel
theorem dX7_keeps_1 : decode cX7_keeps 1 = .ok (.istore_n 3, 1) := by decide +kernel
theorem dX7_keeps_2 : decode cX7_keeps 2 = .ok (.iconst 1, 1) := by decide +kernel
theorem dX7_keeps_3 : decode cX7_keeps 3 = .ok (.istore 4, 2) := by decide +kernel
theorem dX7_keeps_5 : decode cX7_keeps 5 = .ok (.iconst 0, 1) := by decide +kernel
theorem dX7_keeps_6 : decode cX7_keeps 6 = .ok (.istore 5, 2) := by decide +kernel
theorem dX7_keeps_8 : decode cX7_keeps 8 = .ok (.iload 5, 2) := by decide +kernel
theorem dX7_keeps_10 : decode cX7_keeps 10 = .ok (.iload_n 1, 1) := by decide +kernel
theorem dX7_keeps_11 : decode cX7_keeps 11 = .ok (.if_icmp .ge 143, 3) := by decide +kernel
theorem dX7_keeps_14 : decode cX7_keeps 14 = .ok (.aload_n 0, 1) := by decide +kernel
theorem dX7_keeps_15 : decode cX7_keeps 15 = .ok (.getfield 111, 3) := by decide +kernel
theorem dX7_keeps_18 : decode cX7_keeps 18 = .ok (.iload 5, 2) := by decide +kernel
theorem dX7_keeps_20 : decode cX7_keeps 20 = .ok (.iaload, 1) := by decide +kernel
theorem dX7_keeps_21 : decode cX7_keeps 21 = .ok (.iload_n 2, 1) := by decide +kernel
theorem dX7_keeps_22 : decode cX7_keeps 22 = .ok (.if_icmp .ne 63, 3) := by decide +kernel
theorem dX7_keeps_25 : decode cX7_keeps 25 = .ok (.iload 4, 2) := by decide +kernel
theorem dX7_keeps_27 : decode cX7_keeps 27 = .ok (.ifCond .eq 23, 3) := by decide +kernel
theorem dX7_keeps_30 : decode cX7_keeps 30 = .ok (.aload_n 0, 1) := by decide +kernel
theorem dX7_keeps_31 : decode cX7_keeps 31 = .ok (.getfield 114, 3) := by decide +kernel
theorem dX7_keeps_34 : decode cX7_keeps 34 = .ok (.iload 5, 2) := by decide +kernel
theorem dX7_keeps_36 : decode cX7_keeps 36 = .ok (.iaload, 1) := by decide +kernel
theorem dX7_keeps_37 : decode cX7_keeps 37 = .ok (.aload_n 0, 1) := by decide +kernel
theorem dX7_keeps_38 : decode cX7_keeps 38 = .ok (.getfield 75, 3) := by decide +kernel
theorem dX7_keeps_41 : decode cX7_keeps 41 = .ok (.iload_n 2, 1) := by decide +kernel
theorem dX7_keeps_42 : decode cX7_keeps 42 = .ok (.iaload, 1) := by decide +kernel
theorem dX7_keeps_43 : decode cX7_keeps 43 = .ok (.if_icmp .gt 7, 3) := by decide +kernel
theorem dX7_keeps_46 : decode cX7_keeps 46 = .ok (.iconst 1, 1) := by decide +kernel
theorem dX7_keeps_47 : decode cX7_keeps 47 = .ok (.goto 4, 3) := by decide +kernel
theorem dX7_keeps_50 : decode cX7_keeps 50 = .ok (.iconst 0, 1) := by decide +kernel
theorem dX7_keeps_51 : decode cX7_keeps 51 = .ok (.istore 4, 2) := by decide +kernel
theorem dX7_keeps_53 : decode cX7_keeps 53 = .ok (.aload_n 0, 1) := by decide +kernel
theorem dX7_keeps_54 : decode cX7_keeps 54 = .ok (.getfield 114, 3) := by decide +kernel
theorem dX7_keeps_57 : decode cX7_keeps 57 = .ok (.iload 5, 2) := by decide +kernel
theorem dX7_keeps_59 : decode cX7_keeps 59 = .ok (.iaload, 1) := by decide +kernel
theorem dX7_keeps_60 : decode cX7_keeps 60 = .ok (.aload_n 0, 1) := by decide +kernel
theorem dX7_keeps_61 : decode cX7_keeps 61 = .ok (.aload_n 0, 1) := by decide +kernel
theorem dX7_keeps_62 : decode cX7_keeps 62 = .ok (.getfield 69, 3) := by decide +kernel
theorem dX7_keeps_65 : decode cX7_keeps 65 = .ok (.iload_n 2, 1) := by decide +kernel
theorem dX7_keeps_66 : decode cX7_keeps 66 = .ok (.iaload, 1) := by decide +kernel
theorem dX7_keeps_67 : decode cX7_keeps 67 = .ok (.aload_n 0, 1) := by decide +kernel
theorem dX7_keeps_68 : decode cX7_keeps 68 = .ok (.getfield 72, 3) := by decide +kernel
theorem dX7_keeps_71 : decode cX7_keeps 71 = .ok (.iload_n 2, 1) := by decide +kernel
theorem dX7_keeps_72 : decode cX7_keeps 72 = .ok (.iaload, 1) := by decide +kernel
theorem dX7_keeps_73 : decode cX7_keeps 73 = .ok (.invokevirtual 144, 3) := by decide +kernel
theorem dX7_keeps_76 : decode cX7_keeps 76 = .ok (.iconst 3, 1) := by decide +kernel
theorem dX7_keeps_77 : decode cX7_keeps 77 = .ok (.imul, 1) := by decide +kernel
theorem dX7_keeps_78 : decode cX7_keeps 78 = .ok (.iconst 2, 1) := by decide +kernel
theorem dX7_keeps_79 : decode cX7_keeps 79 = .ok (.idiv, 1) := by decide +kernel
theorem dX7_keeps_80 : decode cX7_keeps 80 = .ok (.iadd, 1) := by decide +kernel
theorem dX7_keeps_81 : decode cX7_keeps 81 = .ok (.istore_n 3, 1) := by decide +kernel
theorem dX7_keeps_82 : decode cX7_keeps 82 = .ok (.goto 66, 3) := by decide +kernel
theorem dX7_keeps_85 : decode cX7_keeps 85 = .ok (.aload_n 0, 1) := by decide +kernel
theorem dX7_keeps_86 : decode cX7_keeps 86 = .ok (.getfield 111, 3) := by decide +kernel
theorem dX7_keeps_89 : decode cX7_keeps 89 = .ok (.iload 5, 2) := by decide +kernel
theorem dX7_keeps_91 : decode cX7_keeps 91 = .ok (.iaload, 1) := by decide +kernel
theorem dX7_keeps_92 : decode cX7_keeps 92 = .ok (.bipush 100, 2) := by decide +kernel
theorem dX7_keeps_94 : decode cX7_keeps 94 = .ok (.if_icmp .lt 54, 3) := by decide +kernel
theorem dX7_keeps_97 : decode cX7_keeps 97 = .ok (.aload_n 0, 1) := by decide +kernel
theorem dX7_keeps_98 : decode cX7_keeps 98 = .ok (.getfield 111, 3) := by decide +kernel
theorem dX7_keeps_101 : decode cX7_keeps 101 = .ok (.iload 5, 2) := by decide +kernel
theorem dX7_keeps_103 : decode cX7_keeps 103 = .ok (.iaload, 1) := by decide +kernel
theorem dX7_keeps_104 : decode cX7_keeps 104 = .ok (.bipush 100, 2) := by decide +kernel
theorem dX7_keeps_106 : decode cX7_keeps 106 = .ok (.isub, 1) := by decide +kernel
theorem dX7_keeps_107 : decode cX7_keeps 107 = .ok (.istore 6, 2) := by decide +kernel
theorem dX7_keeps_109 : decode cX7_keeps 109 = .ok (.iload 4, 2) := by decide +kernel
theorem dX7_keeps_111 : decode cX7_keeps 111 = .ok (.ifCond .eq 34, 3) := by decide +kernel
theorem dX7_keeps_114 : decode cX7_keeps 114 = .ok (.aload_n 0, 1) := by decide +kernel
theorem dX7_keeps_115 : decode cX7_keeps 115 = .ok (.getfield 114, 3) := by decide +kernel
theorem dX7_keeps_118 : decode cX7_keeps 118 = .ok (.iload 5, 2) := by decide +kernel
theorem dX7_keeps_120 : decode cX7_keeps 120 = .ok (.iaload, 1) := by decide +kernel
theorem dX7_keeps_121 : decode cX7_keeps 121 = .ok (.iload 6, 2) := by decide +kernel
theorem dX7_keeps_123 : decode cX7_keeps 123 = .ok (.iload_n 2, 1) := by decide +kernel
theorem dX7_keeps_124 : decode cX7_keeps 124 = .ok (.if_icmp .ne 7, 3) := by decide +kernel
theorem dX7_keeps_127 : decode cX7_keeps 127 = .ok (.iload_n 3, 1) := by decide +kernel
theorem dX7_keeps_128 : decode cX7_keeps 128 = .ok (.goto 10, 3) := by decide +kernel
theorem dX7_keeps_131 : decode cX7_keeps 131 = .ok (.aload_n 0, 1) := by decide +kernel
theorem dX7_keeps_132 : decode cX7_keeps 132 = .ok (.getfield 87, 3) := by decide +kernel
theorem dX7_keeps_135 : decode cX7_keeps 135 = .ok (.iload 6, 2) := by decide +kernel
theorem dX7_keeps_137 : decode cX7_keeps 137 = .ok (.iaload, 1) := by decide +kernel
theorem dX7_keeps_138 : decode cX7_keeps 138 = .ok (.if_icmp .gt 7, 3) := by decide +kernel
theorem dX7_keeps_141 : decode cX7_keeps 141 = .ok (.iconst 1, 1) := by decide +kernel
theorem dX7_keeps_142 : decode cX7_keeps 142 = .ok (.goto 4, 3) := by decide +kernel
theorem dX7_keeps_145 : decode cX7_keeps 145 = .ok (.iconst 0, 1) := by decide +kernel
theorem dX7_keeps_146 : decode cX7_keeps 146 = .ok (.istore 4, 2) := by decide +kernel
theorem dX7_keeps_148 : decode cX7_keeps 148 = .ok (.iinc 5 1, 3) := by decide +kernel
theorem dX7_keeps_151 : decode cX7_keeps 151 = .ok (.goto (-143), 3) := by decide +kernel
theorem dX7_keeps_154 : decode cX7_keeps 154 = .ok (.iload 4, 2) := by decide +kernel
theorem dX7_keeps_156 : decode cX7_keeps 156 = .ok (.ireturn, 1) := by decide +kernel
set_option maxRecDepth 20000 in
theorem ggX7_put_X7_tryRow : GoodIn wsX7_put wsX7_tryRow := goodIn_r _ [18, 5, 2, 12, 13, 1, 4, 3, 11, 19, 20, 21, 22, 17, 23, 24, 25, 26, 27, 28, 29, 30, 31, 32, 33, 34, 35, 36, 37, 38, 39, 40, 41, 42, 43, 44, 45, 46, 47, 48, 49, 50, 51, 52, 53, 54, 55, 56, 57, 58, 59, 60, 61, 62, 63, 64, 65, 66] (by decide +kernel) (by decide +kernel)
set_option maxRecDepth 20000 in
theorem gX7_put_X7_tryRow : GoodIn wsX7_put (wsV RX7 201 RX7 yX7_tryRow wsX7_tryRow) := goodIn_app (goodIn_of _ (by decide +kernel)) ggX7_put_X7_tryRow
set_option maxRecDepth 20000 in
theorem ggX7_put_X7_wayOf : GoodIn wsX7_put wsX7_wayOf := goodIn_r _ [23, 24, 25, 26, 27, 28, 29, 30, 31, 32, 33, 34, 35, 36, 37, 38, 39, 40, 41, 42, 43, 44, 45, 46, 47, 48, 49, 50, 51, 52, 53, 54, 55, 56, 57, 58, 59, 60, 61, 62, 63, 64, 65, 66] (by decide +kernel) (by decide +kernel)
set_option maxRecDepth 20000 in
theorem gX7_put_X7_wayOf : GoodIn wsX7_put (wsV RX7 144 RX7 yX7_wayOf wsX7_wayOf) := goodIn_app (goodIn_of _ (by decide +kernel)) ggX7_put_X7_wayOf
theorem dX7_put_0 : decode cX7_put 0 = .ok (.aload_n 0, 1) := by decide +kernel
theorem dX7_put_1 : decode cX7_put 1 = .ok (.iload_n 1, 1) := by decide +kernel
theorem dX7_put_2 : decode cX7_put 2 = .ok (.iload_n 2, 1) := by decide +kernel
theorem dX7_put_3 : decode cX7_put 3 = .ok (.iload_n 3, 1) := by decide +kernel
theorem dX7_put_4 : decode cX7_put 4 = .ok (.iload 4, 2) := by decide +kernel
theorem dX7_put_6 : decode cX7_put 6 = .ok (.invokevirtual 201, 3) := by decide +kernel
theorem dX7_put_9 : decode cX7_put 9 = .ok (.istore 5, 2) := by decide +kernel
theorem dX7_put_11 : decode cX7_put 11 = .ok (.iconst 0, 1) := by decide +kernel
theorem dX7_put_12 : decode cX7_put 12 = .ok (.istore 6, 2) := by decide +kernel
theorem dX7_put_14 : decode cX7_put 14 = .ok (.iload 6, 2) := by decide +kernel
theorem dX7_put_16 : decode cX7_put 16 = .ok (.iload 5, 2) := by decide +kernel
theorem dX7_put_18 : decode cX7_put 18 = .ok (.if_icmp .ge 47, 3) := by decide +kernel
theorem dX7_put_21 : decode cX7_put 21 = .ok (.aload_n 0, 1) := by decide +kernel
theorem dX7_put_22 : decode cX7_put 22 = .ok (.getfield 39, 3) := by decide +kernel
theorem dX7_put_25 : decode cX7_put 25 = .ok (.bipush 8, 2) := by decide +kernel
theorem dX7_put_27 : decode cX7_put 27 = .ok (.iload_n 1, 1) := by decide +kernel
theorem dX7_put_28 : decode cX7_put 28 = .ok (.imul, 1) := by decide +kernel
theorem dX7_put_29 : decode cX7_put 29 = .ok (.iload 6, 2) := by decide +kernel
theorem dX7_put_31 : decode cX7_put 31 = .ok (.iadd, 1) := by decide +kernel
theorem dX7_put_32 : decode cX7_put 32 = .ok (.aload_n 0, 1) := by decide +kernel
theorem dX7_put_33 : decode cX7_put 33 = .ok (.getfield 108, 3) := by decide +kernel
theorem dX7_put_36 : decode cX7_put 36 = .ok (.iload 6, 2) := by decide +kernel
theorem dX7_put_38 : decode cX7_put 38 = .ok (.iaload, 1) := by decide +kernel
theorem dX7_put_39 : decode cX7_put 39 = .ok (.iastore, 1) := by decide +kernel
theorem dX7_put_40 : decode cX7_put 40 = .ok (.aload_n 0, 1) := by decide +kernel
theorem dX7_put_41 : decode cX7_put 41 = .ok (.getfield 42, 3) := by decide +kernel
theorem dX7_put_44 : decode cX7_put 44 = .ok (.bipush 8, 2) := by decide +kernel
theorem dX7_put_46 : decode cX7_put 46 = .ok (.iload_n 1, 1) := by decide +kernel
theorem dX7_put_47 : decode cX7_put 47 = .ok (.imul, 1) := by decide +kernel
theorem dX7_put_48 : decode cX7_put 48 = .ok (.iload 6, 2) := by decide +kernel
theorem dX7_put_50 : decode cX7_put 50 = .ok (.iadd, 1) := by decide +kernel
theorem dX7_put_51 : decode cX7_put 51 = .ok (.aload_n 0, 1) := by decide +kernel
theorem dX7_put_52 : decode cX7_put 52 = .ok (.getfield 111, 3) := by decide +kernel
theorem dX7_put_55 : decode cX7_put 55 = .ok (.iload 6, 2) := by decide +kernel
theorem dX7_put_57 : decode cX7_put 57 = .ok (.iaload, 1) := by decide +kernel
theorem dX7_put_58 : decode cX7_put 58 = .ok (.iastore, 1) := by decide +kernel
theorem dX7_put_59 : decode cX7_put 59 = .ok (.iinc 6 1, 3) := by decide +kernel
theorem dX7_put_62 : decode cX7_put 62 = .ok (.goto (-48), 3) := by decide +kernel
theorem dX7_put_65 : decode cX7_put 65 = .ok (.aload_n 0, 1) := by decide +kernel
theorem dX7_put_66 : decode cX7_put 66 = .ok (.getfield 36, 3) := by decide +kernel
theorem dX7_put_69 : decode cX7_put 69 = .ok (.iload_n 1, 1) := by decide +kernel
theorem dX7_put_70 : decode cX7_put 70 = .ok (.iload 5, 2) := by decide +kernel
theorem dX7_put_72 : decode cX7_put 72 = .ok (.iastore, 1) := by decide +kernel
theorem dX7_put_73 : decode cX7_put 73 = .ok (.aload_n 0, 1) := by decide +kernel
theorem dX7_put_74 : decode cX7_put 74 = .ok (.getfield 66, 3) := by decide +kernel
theorem dX7_put_77 : decode cX7_put 77 = .ok (.iload_n 2, 1) := by decide +kernel
theorem dX7_put_78 : decode cX7_put 78 = .ok (.iconst 1, 1) := by decide +kernel
theorem dX7_put_79 : decode cX7_put 79 = .ok (.iastore, 1) := by decide +kernel
theorem dX7_put_80 : decode cX7_put 80 = .ok (.aload_n 0, 1) := by decide +kernel
theorem dX7_put_81 : decode cX7_put 81 = .ok (.getfield 84, 3) := by decide +kernel
theorem dX7_put_84 : decode cX7_put 84 = .ok (.iload_n 2, 1) := by decide +kernel
theorem dX7_put_85 : decode cX7_put 85 = .ok (.iload_n 1, 1) := by decide +kernel
theorem dX7_put_86 : decode cX7_put 86 = .ok (.iastore, 1) := by decide +kernel
theorem dX7_put_87 : decode cX7_put 87 = .ok (.aload_n 0, 1) := by decide +kernel
theorem dX7_put_88 : decode cX7_put 88 = .ok (.getfield 93, 3) := by decide +kernel
theorem dX7_put_91 : decode cX7_put 91 = .ok (.iload_n 2, 1) := by decide +kernel
theorem dX7_put_92 : decode cX7_put 92 = .ok (.aload_n 0, 1) := by decide +kernel
theorem dX7_put_93 : decode cX7_put 93 = .ok (.getfield 161, 3) := by decide +kernel
theorem dX7_put_96 : decode cX7_put 96 = .ok (.iastore, 1) := by decide +kernel
theorem dX7_put_97 : decode cX7_put 97 = .ok (.aload_n 0, 1) := by decide +kernel
theorem dX7_put_98 : decode cX7_put 98 = .ok (.getfield 87, 3) := by decide +kernel
theorem dX7_put_101 : decode cX7_put 101 = .ok (.iload_n 2, 1) := by decide +kernel
theorem dX7_put_102 : decode cX7_put 102 = .ok (.aload_n 0, 1) := by decide +kernel
theorem dX7_put_103 : decode cX7_put 103 = .ok (.getfield 114, 3) := by decide +kernel
theorem dX7_put_106 : decode cX7_put 106 = .ok (.iload_n 3, 1) := by decide +kernel
theorem dX7_put_107 : decode cX7_put 107 = .ok (.iaload, 1) := by decide +kernel
theorem dX7_put_108 : decode cX7_put 108 = .ok (.aload_n 0, 1) := by decide +kernel
theorem dX7_put_109 : decode cX7_put 109 = .ok (.aload_n 0, 1) := by decide +kernel
theorem dX7_put_110 : decode cX7_put 110 = .ok (.getfield 69, 3) := by decide +kernel
theorem dX7_put_113 : decode cX7_put 113 = .ok (.iload_n 2, 1) := by decide +kernel
theorem dX7_put_114 : decode cX7_put 114 = .ok (.iaload, 1) := by decide +kernel
theorem dX7_put_115 : decode cX7_put 115 = .ok (.aload_n 0, 1) := by decide +kernel
theorem dX7_put_116 : decode cX7_put 116 = .ok (.getfield 72, 3) := by decide +kernel
theorem dX7_put_119 : decode cX7_put 119 = .ok (.iload_n 2, 1) := by decide +kernel
theorem dX7_put_120 : decode cX7_put 120 = .ok (.iaload, 1) := by decide +kernel
theorem dX7_put_121 : decode cX7_put 121 = .ok (.invokevirtual 144, 3) := by decide +kernel
theorem dX7_put_124 : decode cX7_put 124 = .ok (.iconst 3, 1) := by decide +kernel
theorem dX7_put_125 : decode cX7_put 125 = .ok (.imul, 1) := by decide +kernel
theorem dX7_put_126 : decode cX7_put 126 = .ok (.iconst 2, 1) := by decide +kernel
theorem dX7_put_127 : decode cX7_put 127 = .ok (.idiv, 1) := by decide +kernel
theorem dX7_put_128 : decode cX7_put 128 = .ok (.iadd, 1) := by decide +kernel
theorem dX7_put_129 : decode cX7_put 129 = .ok (.iastore, 1) := by decide +kernel
theorem dX7_put_130 : decode cX7_put 130 = .ok (.return_, 1) := by decide +kernel
set_option maxRecDepth 20000 in
theorem ggX7_shareOne_X7_canShare : GoodIn wsX7_shareOne wsX7_canShare := goodIn_r _ [8, 9, 10, 11, 12, 42, 43, 44, 45, 46, 47, 48, 49, 50, 51, 52, 53, 54, 55, 56, 57, 58, 59, 60, 61, 62, 63, 64, 65, 66, 67, 68, 69, 70, 71, 72, 73, 74, 75, 76, 77, 78, 79, 80, 81, 82, 83] (by decide +kernel) (by decide +kernel)
set_option maxRecDepth 20000 in
theorem gX7_shareOne_X7_canShare : GoodIn wsX7_shareOne (wsV RX7 205 RX7 yX7_canShare wsX7_canShare) := goodIn_app (goodIn_of _ (by decide +kernel)) ggX7_shareOne_X7_canShare
set_option maxRecDepth 20000 in
theorem ggX7_shareOne_X7_tryRow : GoodIn wsX7_shareOne wsX7_tryRow := goodIn_r _ [16, 10, 17, 18, 19, 20, 21, 11, 3, 22, 23, 24, 25, 7, 26, 27, 42, 43, 44, 45, 46, 47, 48, 49, 50, 51, 52, 53, 54, 55, 56, 57, 58, 59, 60, 61, 62, 63, 64, 65, 66, 67, 68, 69, 70, 71, 72, 73, 74, 75, 76, 77, 78, 79, 80, 81, 82, 83] (by decide +kernel) (by decide +kernel)
set_option maxRecDepth 20000 in
theorem gX7_shareOne_X7_tryRow : GoodIn wsX7_shareOne (wsV RX7 201 RX7 yX7_tryRow wsX7_tryRow) := goodIn_app (goodIn_of _ (by decide +kernel)) ggX7_shareOne_X7_tryRow
set_option maxRecDepth 20000 in
theorem ggX7_shareOne_X7_keeps : GoodIn wsX7_shareOne wsX7_keeps := goodIn_r _ [31, 21, 3, 32, 18, 19, 33, 23, 24, 25, 7, 26, 27, 42, 43, 44, 45, 46, 47, 48, 49, 50, 51, 52, 53, 54, 55, 56, 57, 58, 59, 60, 61, 62, 63, 64, 65, 66, 67, 68, 69, 70, 71, 72, 73, 74, 75, 76, 77, 78, 79, 80, 81, 82, 83] (by decide +kernel) (by decide +kernel)
set_option maxRecDepth 20000 in
theorem gX7_shareOne_X7_keeps : GoodIn wsX7_shareOne (wsV RX7 208 RX7 yX7_keeps wsX7_keeps) := goodIn_app (goodIn_of _ (by decide +kernel)) ggX7_shareOne_X7_keeps
set_option maxRecDepth 20000 in
theorem ggX7_shareOne_X7_put : GoodIn wsX7_shareOne wsX7_put := goodIn_r _ [37, 20, 17, 11, 21, 10, 38, 39, 40, 41, 33, 3, 18, 19, 13, 14, 15, 7, 16, 22, 23, 24, 25, 26, 27, 42, 43, 44, 45, 46, 47, 48, 49, 50, 51, 52, 53, 54, 55, 56, 57, 58, 59, 60, 61, 62, 63, 64, 65, 66, 67, 68, 69, 70, 71, 72, 73, 74, 75, 76, 77, 78, 79, 80, 81, 82, 83] (by decide +kernel) (by decide +kernel)
set_option maxRecDepth 20000 in
theorem gX7_shareOne_X7_put : GoodIn wsX7_shareOne (wsV RX7 212 RX7 yX7_put wsX7_put) := goodIn_app (goodIn_of _ (by decide +kernel)) ggX7_shareOne_X7_put
theorem dX7_shareOne_0 : decode cX7_shareOne 0 = .ok (.ldc 133, 2) := by decide +kernel
theorem dX7_shareOne_2 : decode cX7_shareOne 2 = .ok (.istore_n 2, 1) := by decide +kernel
theorem dX7_shareOne_3 : decode cX7_shareOne 3 = .ok (.iconst (-1), 1) := by decide +kernel
theorem dX7_shareOne_4 : decode cX7_shareOne 4 = .ok (.istore_n 3, 1) := by decide +kernel
theorem dX7_shareOne_5 : decode cX7_shareOne 5 = .ok (.iconst 0, 1) := by decide +kernel
theorem dX7_shareOne_6 : decode cX7_shareOne 6 = .ok (.istore 4, 2) := by decide +kernel
theorem dX7_shareOne_8 : decode cX7_shareOne 8 = .ok (.iconst 0, 1) := by decide +kernel
theorem dX7_shareOne_9 : decode cX7_shareOne 9 = .ok (.istore 5, 2) := by decide +kernel
theorem dX7_shareOne_11 : decode cX7_shareOne 11 = .ok (.iconst 0, 1) := by decide +kernel
theorem dX7_shareOne_12 : decode cX7_shareOne 12 = .ok (.istore 6, 2) := by decide +kernel
theorem dX7_shareOne_14 : decode cX7_shareOne 14 = .ok (.iload 6, 2) := by decide +kernel
theorem dX7_shareOne_16 : decode cX7_shareOne 16 = .ok (.aload_n 0, 1) := by decide +kernel
theorem dX7_shareOne_17 : decode cX7_shareOne 17 = .ok (.getfield 127, 3) := by decide +kernel
theorem dX7_shareOne_20 : decode cX7_shareOne 20 = .ok (.if_icmp .ge 134, 3) := by decide +kernel
theorem dX7_shareOne_23 : decode cX7_shareOne 23 = .ok (.aload_n 0, 1) := by decide +kernel
theorem dX7_shareOne_24 : decode cX7_shareOne 24 = .ok (.iload 6, 2) := by decide +kernel
theorem dX7_shareOne_26 : decode cX7_shareOne 26 = .ok (.invokevirtual 205, 3) := by decide +kernel
theorem dX7_shareOne_29 : decode cX7_shareOne 29 = .ok (.ifCond .eq 119, 3) := by decide +kernel
theorem dX7_shareOne_32 : decode cX7_shareOne 32 = .ok (.aload_n 0, 1) := by decide +kernel
theorem dX7_shareOne_33 : decode cX7_shareOne 33 = .ok (.iload 6, 2) := by decide +kernel
theorem dX7_shareOne_35 : decode cX7_shareOne 35 = .ok (.iconst (-1), 1) := by decide +kernel
theorem dX7_shareOne_36 : decode cX7_shareOne 36 = .ok (.iconst 0, 1) := by decide +kernel
theorem dX7_shareOne_37 : decode cX7_shareOne 37 = .ok (.iconst 0, 1) := by decide +kernel
theorem dX7_shareOne_38 : decode cX7_shareOne 38 = .ok (.invokevirtual 201, 3) := by decide +kernel
theorem dX7_shareOne_41 : decode cX7_shareOne 41 = .ok (.istore 7, 2) := by decide +kernel
theorem dX7_shareOne_43 : decode cX7_shareOne 43 = .ok (.aload_n 0, 1) := by decide +kernel
theorem dX7_shareOne_44 : decode cX7_shareOne 44 = .ok (.getfield 114, 3) := by decide +kernel
theorem dX7_shareOne_47 : decode cX7_shareOne 47 = .ok (.iload 7, 2) := by decide +kernel
theorem dX7_shareOne_49 : decode cX7_shareOne 49 = .ok (.iconst 1, 1) := by decide +kernel
theorem dX7_shareOne_50 : decode cX7_shareOne 50 = .ok (.isub, 1) := by decide +kernel
theorem dX7_shareOne_51 : decode cX7_shareOne 51 = .ok (.iaload, 1) := by decide +kernel
theorem dX7_shareOne_52 : decode cX7_shareOne 52 = .ok (.istore 8, 2) := by decide +kernel
theorem dX7_shareOne_54 : decode cX7_shareOne 54 = .ok (.iconst 1, 1) := by decide +kernel
theorem dX7_shareOne_55 : decode cX7_shareOne 55 = .ok (.istore 9, 2) := by decide +kernel
theorem dX7_shareOne_57 : decode cX7_shareOne 57 = .ok (.iload 9, 2) := by decide +kernel
theorem dX7_shareOne_59 : decode cX7_shareOne 59 = .ok (.iload 7, 2) := by decide +kernel
theorem dX7_shareOne_61 : decode cX7_shareOne 61 = .ok (.if_icmp .gt 87, 3) := by decide +kernel
theorem dX7_shareOne_64 : decode cX7_shareOne 64 = .ok (.iload 9, 2) := by decide +kernel
theorem dX7_shareOne_66 : decode cX7_shareOne 66 = .ok (.iconst 1, 1) := by decide +kernel
theorem dX7_shareOne_67 : decode cX7_shareOne 67 = .ok (.iadd, 1) := by decide +kernel
theorem dX7_shareOne_68 : decode cX7_shareOne 68 = .ok (.istore 10, 2) := by decide +kernel
theorem dX7_shareOne_70 : decode cX7_shareOne 70 = .ok (.iload 10, 2) := by decide +kernel
theorem dX7_shareOne_72 : decode cX7_shareOne 72 = .ok (.iload 7, 2) := by decide +kernel
theorem dX7_shareOne_74 : decode cX7_shareOne 74 = .ok (.iconst 1, 1) := by decide +kernel
theorem dX7_shareOne_75 : decode cX7_shareOne 75 = .ok (.iadd, 1) := by decide +kernel
theorem dX7_shareOne_76 : decode cX7_shareOne 76 = .ok (.if_icmp .gt 66, 3) := by decide +kernel
theorem dX7_shareOne_79 : decode cX7_shareOne 79 = .ok (.aload_n 0, 1) := by decide +kernel
theorem dX7_shareOne_80 : decode cX7_shareOne 80 = .ok (.iload 6, 2) := by decide +kernel
theorem dX7_shareOne_82 : decode cX7_shareOne 82 = .ok (.iload_n 1, 1) := by decide +kernel
theorem dX7_shareOne_83 : decode cX7_shareOne 83 = .ok (.iload 9, 2) := by decide +kernel
theorem dX7_shareOne_85 : decode cX7_shareOne 85 = .ok (.iload 10, 2) := by decide +kernel
theorem dX7_shareOne_87 : decode cX7_shareOne 87 = .ok (.invokevirtual 201, 3) := by decide +kernel
theorem dX7_shareOne_90 : decode cX7_shareOne 90 = .ok (.istore 11, 2) := by decide +kernel
theorem dX7_shareOne_92 : decode cX7_shareOne 92 = .ok (.aload_n 0, 1) := by decide +kernel
theorem dX7_shareOne_93 : decode cX7_shareOne 93 = .ok (.getfield 114, 3) := by decide +kernel
theorem dX7_shareOne_96 : decode cX7_shareOne 96 = .ok (.iload 11, 2) := by decide +kernel
theorem dX7_shareOne_98 : decode cX7_shareOne 98 = .ok (.iconst 1, 1) := by decide +kernel
theorem dX7_shareOne_99 : decode cX7_shareOne 99 = .ok (.isub, 1) := by decide +kernel
theorem dX7_shareOne_100 : decode cX7_shareOne 100 = .ok (.iaload, 1) := by decide +kernel
theorem dX7_shareOne_101 : decode cX7_shareOne 101 = .ok (.iload 8, 2) := by decide +kernel
theorem dX7_shareOne_103 : decode cX7_shareOne 103 = .ok (.isub, 1) := by decide +kernel
theorem dX7_shareOne_104 : decode cX7_shareOne 104 = .ok (.istore 12, 2) := by decide +kernel
theorem dX7_shareOne_106 : decode cX7_shareOne 106 = .ok (.iload 12, 2) := by decide +kernel
theorem dX7_shareOne_108 : decode cX7_shareOne 108 = .ok (.iload_n 2, 1) := by decide +kernel
theorem dX7_shareOne_109 : decode cX7_shareOne 109 = .ok (.if_icmp .ge 27, 3) := by decide +kernel
theorem dX7_shareOne_112 : decode cX7_shareOne 112 = .ok (.aload_n 0, 1) := by decide +kernel
theorem dX7_shareOne_113 : decode cX7_shareOne 113 = .ok (.iload 11, 2) := by decide +kernel
theorem dX7_shareOne_115 : decode cX7_shareOne 115 = .ok (.iload_n 1, 1) := by decide +kernel
theorem dX7_shareOne_116 : decode cX7_shareOne 116 = .ok (.invokevirtual 208, 3) := by decide +kernel
theorem dX7_shareOne_119 : decode cX7_shareOne 119 = .ok (.ifCond .eq 17, 3) := by decide +kernel
theorem dX7_shareOne_122 : decode cX7_shareOne 122 = .ok (.iload 12, 2) := by decide +kernel
theorem dX7_shareOne_124 : decode cX7_shareOne 124 = .ok (.istore_n 2, 1) := by decide +kernel
theorem dX7_shareOne_125 : decode cX7_shareOne 125 = .ok (.iload 6, 2) := by decide +kernel
theorem dX7_shareOne_127 : decode cX7_shareOne 127 = .ok (.istore_n 3, 1) := by decide +kernel
theorem dX7_shareOne_128 : decode cX7_shareOne 128 = .ok (.iload 9, 2) := by decide +kernel
theorem dX7_shareOne_130 : decode cX7_shareOne 130 = .ok (.istore 4, 2) := by decide +kernel
theorem dX7_shareOne_132 : decode cX7_shareOne 132 = .ok (.iload 10, 2) := by decide +kernel
theorem dX7_shareOne_134 : decode cX7_shareOne 134 = .ok (.istore 5, 2) := by decide +kernel
theorem dX7_shareOne_136 : decode cX7_shareOne 136 = .ok (.iinc 10 1, 3) := by decide +kernel
theorem dX7_shareOne_139 : decode cX7_shareOne 139 = .ok (.goto (-69), 3) := by decide +kernel
theorem dX7_shareOne_142 : decode cX7_shareOne 142 = .ok (.iinc 9 1, 3) := by decide +kernel
theorem dX7_shareOne_145 : decode cX7_shareOne 145 = .ok (.goto (-88), 3) := by decide +kernel
theorem dX7_shareOne_148 : decode cX7_shareOne 148 = .ok (.iinc 6 1, 3) := by decide +kernel
theorem dX7_shareOne_151 : decode cX7_shareOne 151 = .ok (.goto (-137), 3) := by decide +kernel
theorem dX7_shareOne_154 : decode cX7_shareOne 154 = .ok (.iload_n 3, 1) := by decide +kernel
theorem dX7_shareOne_155 : decode cX7_shareOne 155 = .ok (.iconst (-1), 1) := by decide +kernel
theorem dX7_shareOne_156 : decode cX7_shareOne 156 = .ok (.if_icmp .eq 13, 3) := by decide +kernel
theorem dX7_shareOne_159 : decode cX7_shareOne 159 = .ok (.aload_n 0, 1) := by decide +kernel
theorem dX7_shareOne_160 : decode cX7_shareOne 160 = .ok (.iload_n 3, 1) := by decide +kernel
theorem dX7_shareOne_161 : decode cX7_shareOne 161 = .ok (.iload_n 1, 1) := by decide +kernel
theorem dX7_shareOne_162 : decode cX7_shareOne 162 = .ok (.iload 4, 2) := by decide +kernel
theorem dX7_shareOne_164 : decode cX7_shareOne 164 = .ok (.iload 5, 2) := by decide +kernel
theorem dX7_shareOne_166 : decode cX7_shareOne 166 = .ok (.invokevirtual 212, 3) := by decide +kernel
theorem dX7_shareOne_169 : decode cX7_shareOne 169 = .ok (.iload_n 3, 1) := by decide +kernel
theorem dX7_shareOne_170 : decode cX7_shareOne 170 = .ok (.iconst (-1), 1) := by decide +kernel
theorem dX7_shareOne_171 : decode cX7_shareOne 171 = .ok (.if_icmp .eq 7, 3) := by decide +kernel
theorem dX7_shareOne_174 : decode cX7_shareOne 174 = .ok (.iconst 1, 1) := by decide +kernel
theorem dX7_shareOne_175 : decode cX7_shareOne 175 = .ok (.goto 4, 3) := by decide +kernel
theorem dX7_shareOne_178 : decode cX7_shareOne 178 = .ok (.iconst 0, 1) := by decide +kernel
theorem dX7_shareOne_179 : decode cX7_shareOne 179 = .ok (.ireturn, 1) := by decide +kernel
set_option maxRecDepth 20000 in
theorem ggX7_share_X7_shareOne : GoodIn wsX7_share wsX7_shareOne := goodIn_r _ [9, 10, 11, 12, 13, 14, 15, 8, 16, 17, 18, 19, 4, 20, 21, 22, 23, 24, 25, 26, 27, 28, 29, 30, 31, 32, 33, 34, 35, 36, 37, 38, 39, 40, 41, 42, 43, 44, 3, 45, 46, 47, 48, 49, 50, 51, 52, 53, 54, 55, 56, 57, 58, 59, 60, 61, 62, 63, 64, 65, 66, 67, 68, 69, 70, 71, 72, 73, 74, 75, 76, 77, 78, 79, 80, 81, 82, 83, 84, 85, 86, 87, 88, 89] (by decide +kernel) (by decide +kernel)
set_option maxRecDepth 20000 in
theorem gX7_share_X7_shareOne : GoodIn wsX7_share (wsV RX7 216 RX7 yX7_shareOne wsX7_shareOne) := goodIn_app (goodIn_of _ (by decide +kernel)) ggX7_share_X7_shareOne
theorem dX7_share_0 : decode cX7_share 0 = .ok (.aload_n 0, 1) := by decide +kernel
theorem dX7_share_1 : decode cX7_share 1 = .ok (.iconst 0, 1) := by decide +kernel
theorem dX7_share_2 : decode cX7_share 2 = .ok (.putfield 120, 3) := by decide +kernel
theorem dX7_share_5 : decode cX7_share 5 = .ok (.iconst 0, 1) := by decide +kernel
theorem dX7_share_6 : decode cX7_share 6 = .ok (.istore_n 1, 1) := by decide +kernel
theorem dX7_share_7 : decode cX7_share 7 = .ok (.iconst 0, 1) := by decide +kernel
theorem dX7_share_8 : decode cX7_share 8 = .ok (.istore_n 2, 1) := by decide +kernel
theorem dX7_share_9 : decode cX7_share 9 = .ok (.iload_n 2, 1) := by decide +kernel
theorem dX7_share_10 : decode cX7_share 10 = .ok (.aload_n 0, 1) := by decide +kernel
theorem dX7_share_11 : decode cX7_share 11 = .ok (.getfield 130, 3) := by decide +kernel
theorem dX7_share_14 : decode cX7_share 14 = .ok (.if_icmp .ge 43, 3) := by decide +kernel
theorem dX7_share_17 : decode cX7_share 17 = .ok (.iload_n 1, 1) := by decide +kernel
theorem dX7_share_18 : decode cX7_share 18 = .ok (.aload_n 0, 1) := by decide +kernel
theorem dX7_share_19 : decode cX7_share 19 = .ok (.getfield 66, 3) := by decide +kernel
theorem dX7_share_22 : decode cX7_share 22 = .ok (.iload_n 2, 1) := by decide +kernel
theorem dX7_share_23 : decode cX7_share 23 = .ok (.iaload, 1) := by decide +kernel
theorem dX7_share_24 : decode cX7_share 24 = .ok (.ifCond .ne 24, 3) := by decide +kernel
theorem dX7_share_27 : decode cX7_share 27 = .ok (.aload_n 0, 1) := by decide +kernel
theorem dX7_share_28 : decode cX7_share 28 = .ok (.getfield 78, 3) := by decide +kernel
theorem dX7_share_31 : decode cX7_share 31 = .ok (.iload_n 2, 1) := by decide +kernel
theorem dX7_share_32 : decode cX7_share 32 = .ok (.baload, 1) := by decide +kernel
theorem dX7_share_33 : decode cX7_share 33 = .ok (.ifCond .eq 15, 3) := by decide +kernel
theorem dX7_share_36 : decode cX7_share 36 = .ok (.aload_n 0, 1) := by decide +kernel
theorem dX7_share_37 : decode cX7_share 37 = .ok (.iload_n 2, 1) := by decide +kernel
theorem dX7_share_38 : decode cX7_share 38 = .ok (.invokevirtual 216, 3) := by decide +kernel
theorem dX7_share_41 : decode cX7_share 41 = .ok (.ifCond .eq 7, 3) := by decide +kernel
theorem dX7_share_44 : decode cX7_share 44 = .ok (.iconst 1, 1) := by decide +kernel
theorem dX7_share_45 : decode cX7_share 45 = .ok (.goto 4, 3) := by decide +kernel
theorem dX7_share_48 : decode cX7_share 48 = .ok (.iconst 0, 1) := by decide +kernel
theorem dX7_share_49 : decode cX7_share 49 = .ok (.iadd, 1) := by decide +kernel
theorem dX7_share_50 : decode cX7_share 50 = .ok (.istore_n 1, 1) := by decide +kernel
theorem dX7_share_51 : decode cX7_share 51 = .ok (.iinc 2 1, 3) := by decide +kernel
theorem dX7_share_54 : decode cX7_share 54 = .ok (.goto (-45), 3) := by decide +kernel
theorem dX7_share_57 : decode cX7_share 57 = .ok (.iload_n 1, 1) := by decide +kernel
theorem dX7_share_58 : decode cX7_share 58 = .ok (.ireturn, 1) := by decide +kernel
theorem dX7_hasRider_0 : decode cX7_hasRider 0 = .ok (.iconst 0, 1) := by decide +kernel
theorem dX7_hasRider_1 : decode cX7_hasRider 1 = .ok (.istore_n 2, 1) := by decide +kernel
theorem dX7_hasRider_2 : decode cX7_hasRider 2 = .ok (.bipush 8, 2) := by decide +kernel
theorem dX7_hasRider_4 : decode cX7_hasRider 4 = .ok (.iload_n 1, 1) := by decide +kernel
theorem dX7_hasRider_5 : decode cX7_hasRider 5 = .ok (.imul, 1) := by decide +kernel
theorem dX7_hasRider_6 : decode cX7_hasRider 6 = .ok (.istore_n 3, 1) := by decide +kernel
theorem dX7_hasRider_7 : decode cX7_hasRider 7 = .ok (.iload_n 3, 1) := by decide +kernel
theorem dX7_hasRider_8 : decode cX7_hasRider 8 = .ok (.bipush 8, 2) := by decide +kernel
theorem dX7_hasRider_10 : decode cX7_hasRider 10 = .ok (.iload_n 1, 1) := by decide +kernel
theorem dX7_hasRider_11 : decode cX7_hasRider 11 = .ok (.imul, 1) := by decide +kernel
theorem dX7_hasRider_12 : decode cX7_hasRider 12 = .ok (.aload_n 0, 1) := by decide +kernel
theorem dX7_hasRider_13 : decode cX7_hasRider 13 = .ok (.getfield 36, 3) := by decide +kernel
theorem dX7_hasRider_16 : decode cX7_hasRider 16 = .ok (.iload_n 1, 1) := by decide +kernel
theorem dX7_hasRider_17 : decode cX7_hasRider 17 = .ok (.iaload, 1) := by decide +kernel
theorem dX7_hasRider_18 : decode cX7_hasRider 18 = .ok (.iadd, 1) := by decide +kernel
theorem dX7_hasRider_19 : decode cX7_hasRider 19 = .ok (.if_icmp .ge 29, 3) := by decide +kernel
theorem dX7_hasRider_22 : decode cX7_hasRider 22 = .ok (.iload_n 2, 1) := by decide +kernel
theorem dX7_hasRider_23 : decode cX7_hasRider 23 = .ok (.ifCond .ne 13, 3) := by decide +kernel
theorem dX7_hasRider_26 : decode cX7_hasRider 26 = .ok (.aload_n 0, 1) := by decide +kernel
theorem dX7_hasRider_27 : decode cX7_hasRider 27 = .ok (.getfield 42, 3) := by decide +kernel
theorem dX7_hasRider_30 : decode cX7_hasRider 30 = .ok (.iload_n 3, 1) := by decide +kernel
theorem dX7_hasRider_31 : decode cX7_hasRider 31 = .ok (.iaload, 1) := by decide +kernel
theorem dX7_hasRider_32 : decode cX7_hasRider 32 = .ok (.iconst (-1), 1) := by decide +kernel
theorem dX7_hasRider_33 : decode cX7_hasRider 33 = .ok (.if_icmp .eq 7, 3) := by decide +kernel
theorem dX7_hasRider_36 : decode cX7_hasRider 36 = .ok (.iconst 1, 1) := by decide +kernel
theorem dX7_hasRider_37 : decode cX7_hasRider 37 = .ok (.goto 4, 3) := by decide +kernel
theorem dX7_hasRider_40 : decode cX7_hasRider 40 = .ok (.iconst 0, 1) := by decide +kernel
theorem dX7_hasRider_41 : decode cX7_hasRider 41 = .ok (.istore_n 2, 1) := by decide +kernel
theorem dX7_hasRider_42 : decode cX7_hasRider 42 = .ok (.iinc 3 1, 3) := by decide +kernel
theorem dX7_hasRider_45 : decode cX7_hasRider 45 = .ok (.goto (-38), 3) := by decide +kernel
theorem dX7_hasRider_48 : decode cX7_hasRider 48 = .ok (.iload_n 2, 1) := by decide +kernel
theorem dX7_hasRider_49 : decode cX7_hasRider 49 = .ok (.ireturn, 1) := by decide +kernel
set_option maxRecDepth 20000 in
theorem ggX7_passes_X7_hasRider : GoodIn wsX7_passes wsX7_hasRider := goodIn_r _ [13, 4, 14, 46, 47, 48, 49, 50, 51, 52, 53, 54, 55, 56, 57, 58, 59, 60, 61, 62, 63, 64, 65, 66, 67, 68, 69, 70, 71, 72, 73, 74, 75, 76, 77, 78, 79, 80, 81, 82, 83, 84, 85, 86, 87] (by decide +kernel) (by decide +kernel)
set_option maxRecDepth 20000 in
theorem gX7_passes_X7_hasRider : GoodIn wsX7_passes (wsV RX7 219 RX7 yX7_hasRider wsX7_hasRider) := goodIn_app (goodIn_of _ (by decide +kernel)) ggX7_passes_X7_hasRider
set_option maxRecDepth 20000 in
theorem ggX7_passes_X7_takeFirst : GoodIn wsX7_passes wsX7_takeFirst := goodIn_r _ [18, 14, 19, 20, 4, 7, 21, 3, 22, 23, 24, 46, 47, 48, 49, 50, 51, 52, 53, 54, 55, 56, 57, 58, 59, 60, 61, 62, 63, 64, 65, 66, 67, 68, 69, 70, 71, 72, 73, 74, 75, 76, 77, 78, 79, 80, 81, 82, 83, 84, 85, 86, 87] (by decide +kernel) (by decide +kernel)
set_option maxRecDepth 20000 in
theorem gX7_passes_X7_takeFirst : GoodIn wsX7_passes (wsV RX7 164 RX7 yX7_takeFirst wsX7_takeFirst) := goodIn_app (goodIn_of _ (by decide +kernel)) ggX7_passes_X7_takeFirst
set_option maxRecDepth 20000 in
theorem ggX7_passes_X7_leaves : GoodIn wsX7_passes wsX7_leaves := goodIn_r _ [28, 4, 5, 3, 19, 20, 29, 30, 31, 12, 32, 33, 15, 16, 17, 18, 14, 7, 21, 22, 23, 24, 34, 35, 36, 37, 38, 39, 40, 41, 42, 43, 44, 45, 46, 47, 48, 49, 50, 51, 52, 53, 54, 55, 56, 57, 58, 59, 60, 61, 62, 63, 64, 65, 66, 67, 68, 69, 70, 71, 72, 73, 74, 75, 76, 77, 78, 79, 80, 81, 82, 83, 84, 85, 86, 87] (by decide +kernel) (by decide +kernel)
set_option maxRecDepth 20000 in
theorem gX7_passes_X7_leaves : GoodIn wsX7_passes (wsV RX7 171 RX7 yX7_leaves wsX7_leaves) := goodIn_app (goodIn_of _ (by decide +kernel)) ggX7_passes_X7_leaves
theorem dX7_passes_0 : decode cX7_passes 0 = .ok (.iconst 0, 1) := by decide +kernel
theorem dX7_passes_1 : decode cX7_passes 1 = .ok (.istore_n 1, 1) := by decide +kernel
theorem dX7_passes_2 : decode cX7_passes 2 = .ok (.iload_n 1, 1) := by decide +kernel
theorem dX7_passes_3 : decode cX7_passes 3 = .ok (.aload_n 0, 1) := by decide +kernel
theorem dX7_passes_4 : decode cX7_passes 4 = .ok (.getfield 127, 3) := by decide +kernel
theorem dX7_passes_7 : decode cX7_passes 7 = .ok (.if_icmp .ge 31, 3) := by decide +kernel
theorem dX7_passes_10 : decode cX7_passes 10 = .ok (.aload_n 0, 1) := by decide +kernel
theorem dX7_passes_11 : decode cX7_passes 11 = .ok (.getfield 57, 3) := by decide +kernel
theorem dX7_passes_14 : decode cX7_passes 14 = .ok (.iload_n 1, 1) := by decide +kernel
theorem dX7_passes_15 : decode cX7_passes 15 = .ok (.dup2, 1) := by decide +kernel
theorem dX7_passes_16 : decode cX7_passes 16 = .ok (.iaload, 1) := by decide +kernel
theorem dX7_passes_17 : decode cX7_passes 17 = .ok (.aload_n 0, 1) := by decide +kernel
theorem dX7_passes_18 : decode cX7_passes 18 = .ok (.iload_n 1, 1) := by decide +kernel
theorem dX7_passes_19 : decode cX7_passes 19 = .ok (.invokevirtual 219, 3) := by decide +kernel
theorem dX7_passes_22 : decode cX7_passes 22 = .ok (.ifCond .eq 7, 3) := by decide +kernel
theorem dX7_passes_25 : decode cX7_passes 25 = .ok (.iconst 1, 1) := by decide +kernel
theorem dX7_passes_26 : decode cX7_passes 26 = .ok (.goto 4, 3) := by decide +kernel
theorem dX7_passes_29 : decode cX7_passes 29 = .ok (.iconst 0, 1) := by decide +kernel
theorem dX7_passes_30 : decode cX7_passes 30 = .ok (.iadd, 1) := by decide +kernel
theorem dX7_passes_31 : decode cX7_passes 31 = .ok (.iastore, 1) := by decide +kernel
theorem dX7_passes_32 : decode cX7_passes 32 = .ok (.iinc 1 1, 3) := by decide +kernel
theorem dX7_passes_35 : decode cX7_passes 35 = .ok (.goto (-33), 3) := by decide +kernel
theorem dX7_passes_38 : decode cX7_passes 38 = .ok (.aload_n 0, 1) := by decide +kernel
theorem dX7_passes_39 : decode cX7_passes 39 = .ok (.dup, 1) := by decide +kernel
theorem dX7_passes_40 : decode cX7_passes 40 = .ok (.getfield 161, 3) := by decide +kernel
theorem dX7_passes_43 : decode cX7_passes 43 = .ok (.iconst 1, 1) := by decide +kernel
theorem dX7_passes_44 : decode cX7_passes 44 = .ok (.iadd, 1) := by decide +kernel
theorem dX7_passes_45 : decode cX7_passes 45 = .ok (.putfield 161, 3) := by decide +kernel
theorem dX7_passes_48 : decode cX7_passes 48 = .ok (.iconst 0, 1) := by decide +kernel
theorem dX7_passes_49 : decode cX7_passes 49 = .ok (.istore_n 1, 1) := by decide +kernel
theorem dX7_passes_50 : decode cX7_passes 50 = .ok (.iload_n 1, 1) := by decide +kernel
theorem dX7_passes_51 : decode cX7_passes 51 = .ok (.aload_n 0, 1) := by decide +kernel
theorem dX7_passes_52 : decode cX7_passes 52 = .ok (.getfield 127, 3) := by decide +kernel
theorem dX7_passes_55 : decode cX7_passes 55 = .ok (.if_icmp .ge 41, 3) := by decide +kernel
theorem dX7_passes_58 : decode cX7_passes 58 = .ok (.aload_n 0, 1) := by decide +kernel
theorem dX7_passes_59 : decode cX7_passes 59 = .ok (.getfield 36, 3) := by decide +kernel
theorem dX7_passes_62 : decode cX7_passes 62 = .ok (.iload_n 1, 1) := by decide +kernel
theorem dX7_passes_63 : decode cX7_passes 63 = .ok (.iaload, 1) := by decide +kernel
theorem dX7_passes_64 : decode cX7_passes 64 = .ok (.ifCond .le 26, 3) := by decide +kernel
theorem dX7_passes_67 : decode cX7_passes 67 = .ok (.aload_n 0, 1) := by decide +kernel
theorem dX7_passes_68 : decode cX7_passes 68 = .ok (.getfield 45, 3) := by decide +kernel
theorem dX7_passes_71 : decode cX7_passes 71 = .ok (.iload_n 1, 1) := by decide +kernel
theorem dX7_passes_72 : decode cX7_passes 72 = .ok (.iaload, 1) := by decide +kernel
theorem dX7_passes_73 : decode cX7_passes 73 = .ok (.aload_n 0, 1) := by decide +kernel
theorem dX7_passes_74 : decode cX7_passes 74 = .ok (.getfield 161, 3) := by decide +kernel
theorem dX7_passes_77 : decode cX7_passes 77 = .ok (.if_icmp .gt 13, 3) := by decide +kernel
theorem dX7_passes_80 : decode cX7_passes 80 = .ok (.aload_n 0, 1) := by decide +kernel
theorem dX7_passes_81 : decode cX7_passes 81 = .ok (.iload_n 1, 1) := by decide +kernel
theorem dX7_passes_82 : decode cX7_passes 82 = .ok (.invokevirtual 164, 3) := by decide +kernel
theorem dX7_passes_85 : decode cX7_passes 85 = .ok (.aload_n 0, 1) := by decide +kernel
theorem dX7_passes_86 : decode cX7_passes 86 = .ok (.iload_n 1, 1) := by decide +kernel
theorem dX7_passes_87 : decode cX7_passes 87 = .ok (.invokevirtual 171, 3) := by decide +kernel
theorem dX7_passes_90 : decode cX7_passes 90 = .ok (.iinc 1 1, 3) := by decide +kernel
theorem dX7_passes_93 : decode cX7_passes 93 = .ok (.goto (-43), 3) := by decide +kernel
theorem dX7_passes_96 : decode cX7_passes 96 = .ok (.iconst 0, 1) := by decide +kernel
theorem dX7_passes_97 : decode cX7_passes 97 = .ok (.istore_n 1, 1) := by decide +kernel
theorem dX7_passes_98 : decode cX7_passes 98 = .ok (.iload_n 1, 1) := by decide +kernel
theorem dX7_passes_99 : decode cX7_passes 99 = .ok (.aload_n 0, 1) := by decide +kernel
theorem dX7_passes_100 : decode cX7_passes 100 = .ok (.getfield 130, 3) := by decide +kernel
theorem dX7_passes_103 : decode cX7_passes 103 = .ok (.if_icmp .ge 47, 3) := by decide +kernel
theorem dX7_passes_106 : decode cX7_passes 106 = .ok (.aload_n 0, 1) := by decide +kernel
theorem dX7_passes_107 : decode cX7_passes 107 = .ok (.getfield 66, 3) := by decide +kernel
theorem dX7_passes_110 : decode cX7_passes 110 = .ok (.iload_n 1, 1) := by decide +kernel
theorem dX7_passes_111 : decode cX7_passes 111 = .ok (.aload_n 0, 1) := by decide +kernel
theorem dX7_passes_112 : decode cX7_passes 112 = .ok (.getfield 66, 3) := by decide +kernel
theorem dX7_passes_115 : decode cX7_passes 115 = .ok (.iload_n 1, 1) := by decide +kernel
theorem dX7_passes_116 : decode cX7_passes 116 = .ok (.iaload, 1) := by decide +kernel
theorem dX7_passes_117 : decode cX7_passes 117 = .ok (.ifCond .ne 20, 3) := by decide +kernel
theorem dX7_passes_120 : decode cX7_passes 120 = .ok (.aload_n 0, 1) := by decide +kernel
theorem dX7_passes_121 : decode cX7_passes 121 = .ok (.getfield 161, 3) := by decide +kernel
theorem dX7_passes_124 : decode cX7_passes 124 = .ok (.aload_n 0, 1) := by decide +kernel
theorem dX7_passes_125 : decode cX7_passes 125 = .ok (.getfield 75, 3) := by decide +kernel
theorem dX7_passes_128 : decode cX7_passes 128 = .ok (.iload_n 1, 1) := by decide +kernel
theorem dX7_passes_129 : decode cX7_passes 129 = .ok (.iaload, 1) := by decide +kernel
theorem dX7_passes_130 : decode cX7_passes 130 = .ok (.if_icmp .lt 7, 3) := by decide +kernel
theorem dX7_passes_133 : decode cX7_passes 133 = .ok (.iconst 4, 1) := by decide +kernel
theorem dX7_passes_134 : decode cX7_passes 134 = .ok (.goto 9, 3) := by decide +kernel
theorem dX7_passes_137 : decode cX7_passes 137 = .ok (.aload_n 0, 1) := by decide +kernel
theorem dX7_passes_138 : decode cX7_passes 138 = .ok (.getfield 66, 3) := by decide +kernel
theorem dX7_passes_141 : decode cX7_passes 141 = .ok (.iload_n 1, 1) := by decide +kernel
theorem dX7_passes_142 : decode cX7_passes 142 = .ok (.iaload, 1) := by decide +kernel
theorem dX7_passes_143 : decode cX7_passes 143 = .ok (.iastore, 1) := by decide +kernel
theorem dX7_passes_144 : decode cX7_passes 144 = .ok (.iinc 1 1, 3) := by decide +kernel
theorem dX7_passes_147 : decode cX7_passes 147 = .ok (.goto (-49), 3) := by decide +kernel
theorem dX7_passes_150 : decode cX7_passes 150 = .ok (.return_, 1) := by decide +kernel
set_option maxRecDepth 20000 in
theorem ggX7_pass_X7_in : GoodIn wsX7_pass wsX7_in := goodIn_r _ [5] (by decide +kernel) (by decide +kernel)
set_option maxRecDepth 20000 in
theorem gX7_pass_X7_in : GoodIn wsX7_pass (va_wsS RX7 123 yX7_in wsX7_in) := goodIn_app (goodIn_of _ (by decide +kernel)) ggX7_pass_X7_in
set_option maxRecDepth 20000 in
theorem ggX7_pass_X7_refused : GoodIn wsX7_pass wsX7_refused := goodIn_r _ [9, 10, 58, 59, 60, 61, 62, 63, 64, 65, 66, 67, 68, 69, 70, 71, 72, 73, 74, 75, 76, 77, 78, 79, 80, 81, 82, 83, 84, 85, 86, 87, 88, 89, 90, 91, 92, 93, 94, 95, 96, 97, 98, 99] (by decide +kernel) (by decide +kernel)
set_option maxRecDepth 20000 in
theorem gX7_pass_X7_refused : GoodIn wsX7_pass (wsV RX7 141 RX7 yX7_refused wsX7_refused) := goodIn_app (goodIn_of _ (by decide +kernel)) ggX7_pass_X7_refused
set_option maxRecDepth 20000 in
theorem ggX7_pass_X7_passes : GoodIn wsX7_pass wsX7_passes := goodIn_r _ [14, 15, 16, 1, 17, 18, 19, 20, 21, 22, 23, 24, 4, 25, 26, 27, 28, 29, 30, 31, 32, 33, 34, 35, 36, 37, 38, 39, 40, 41, 42, 43, 44, 45, 46, 47, 48, 49, 50, 51, 52, 53, 54, 55, 56, 57, 58, 59, 60, 61, 62, 63, 64, 65, 66, 67, 68, 69, 70, 71, 72, 73, 74, 75, 76, 77, 78, 79, 80, 81, 82, 83, 84, 85, 86, 87, 88, 89, 90, 91, 92, 93, 94, 95, 96, 97, 98, 99] (by decide +kernel) (by decide +kernel)
set_option maxRecDepth 20000 in
theorem gX7_pass_X7_passes : GoodIn wsX7_pass (wsV RX7 222 RX7 yX7_passes wsX7_passes) := goodIn_app (goodIn_of _ (by decide +kernel)) ggX7_pass_X7_passes
theorem dX7_pass_0 : decode cX7_pass 0 = .ok (.aload_n 0, 1) := by decide +kernel
theorem dX7_pass_1 : decode cX7_pass 1 = .ok (.iload_n 1, 1) := by decide +kernel
theorem dX7_pass_2 : decode cX7_pass 2 = .ok (.iconst 1, 1) := by decide +kernel
theorem dX7_pass_3 : decode cX7_pass 3 = .ok (.bipush 120, 2) := by decide +kernel
theorem dX7_pass_5 : decode cX7_pass 5 = .ok (.invokestatic 123, 3) := by decide +kernel
theorem dX7_pass_8 : decode cX7_pass 8 = .ok (.ifCond .ne 7, 3) := by decide +kernel
theorem dX7_pass_11 : decode cX7_pass 11 = .ok (.iconst 1, 1) := by decide +kernel
theorem dX7_pass_12 : decode cX7_pass 12 = .ok (.goto 20, 3) := by decide +kernel
theorem dX7_pass_15 : decode cX7_pass 15 = .ok (.aload_n 0, 1) := by decide +kernel
theorem dX7_pass_16 : decode cX7_pass 16 = .ok (.getfield 161, 3) := by decide +kernel
theorem dX7_pass_19 : decode cX7_pass 19 = .ok (.iload_n 1, 1) := by decide +kernel
theorem dX7_pass_20 : decode cX7_pass 20 = .ok (.iadd, 1) := by decide +kernel
theorem dX7_pass_21 : decode cX7_pass 21 = .ok (.sipush 20000, 3) := by decide +kernel
theorem dX7_pass_24 : decode cX7_pass 24 = .ok (.if_icmp .le 7, 3) := by decide +kernel
theorem dX7_pass_27 : decode cX7_pass 27 = .ok (.iconst 2, 1) := by decide +kernel
theorem dX7_pass_28 : decode cX7_pass 28 = .ok (.goto 4, 3) := by decide +kernel
theorem dX7_pass_31 : decode cX7_pass 31 = .ok (.iconst 0, 1) := by decide +kernel
theorem dX7_pass_32 : decode cX7_pass 32 = .ok (.invokevirtual 141, 3) := by decide +kernel
theorem dX7_pass_35 : decode cX7_pass 35 = .ok (.ifCond .eq 5, 3) := by decide +kernel
theorem dX7_pass_38 : decode cX7_pass 38 = .ok (.iconst 0, 1) := by decide +kernel
theorem dX7_pass_39 : decode cX7_pass 39 = .ok (.ireturn, 1) := by decide +kernel
theorem dX7_pass_40 : decode cX7_pass 40 = .ok (.iconst 0, 1) := by decide +kernel
theorem dX7_pass_41 : decode cX7_pass 41 = .ok (.istore_n 2, 1) := by decide +kernel
theorem dX7_pass_42 : decode cX7_pass 42 = .ok (.iload_n 2, 1) := by decide +kernel
theorem dX7_pass_43 : decode cX7_pass 43 = .ok (.iload_n 1, 1) := by decide +kernel
theorem dX7_pass_44 : decode cX7_pass 44 = .ok (.if_icmp .ge 13, 3) := by decide +kernel
theorem dX7_pass_47 : decode cX7_pass 47 = .ok (.aload_n 0, 1) := by decide +kernel
theorem dX7_pass_48 : decode cX7_pass 48 = .ok (.invokevirtual 222, 3) := by decide +kernel
theorem dX7_pass_51 : decode cX7_pass 51 = .ok (.iinc 2 1, 3) := by decide +kernel
theorem dX7_pass_54 : decode cX7_pass 54 = .ok (.goto (-12), 3) := by decide +kernel
theorem dX7_pass_57 : decode cX7_pass 57 = .ok (.aload_n 0, 1) := by decide +kernel
theorem dX7_pass_58 : decode cX7_pass 58 = .ok (.getfield 161, 3) := by decide +kernel
theorem dX7_pass_61 : decode cX7_pass 61 = .ok (.ireturn, 1) := by decide +kernel
set_option maxRecDepth 20000 in
theorem ggX7_requestIs_X7_isRequest : GoodIn wsX7_requestIs wsX7_isRequest := goodIn_r _ [11, 12, 13, 14, 10, 15, 21, 22, 23, 24, 25, 26, 27, 28, 29, 30, 31, 32, 33, 34, 35, 36, 37, 38, 39, 40, 41, 42, 43, 44, 45, 46, 47, 48, 49, 50, 51, 52, 53, 54, 55, 56, 57, 58, 59, 60, 61, 62] (by decide +kernel) (by decide +kernel)
set_option maxRecDepth 20000 in
theorem gX7_requestIs_X7_isRequest : GoodIn wsX7_requestIs (wsV RX7 178 RX7 yX7_isRequest wsX7_isRequest) := goodIn_app (goodIn_of _ (by decide +kernel)) ggX7_requestIs_X7_isRequest
set_option maxRecDepth 20000 in
theorem ggX7_requestIs_X7_in : GoodIn wsX7_requestIs wsX7_in := goodIn_r _ [15] (by decide +kernel) (by decide +kernel)
set_option maxRecDepth 20000 in
theorem gX7_requestIs_X7_in : GoodIn wsX7_requestIs (va_wsS RX7 123 yX7_in wsX7_in) := goodIn_app (goodIn_of _ (by decide +kernel)) ggX7_requestIs_X7_in
set_option maxRecDepth 20000 in
theorem ggX7_requestIs_X7_refused : GoodIn wsX7_requestIs wsX7_refused := goodIn_r _ [19, 20, 21, 22, 23, 24, 25, 26, 27, 28, 29, 30, 31, 32, 33, 34, 35, 36, 37, 38, 39, 40, 41, 42, 43, 44, 45, 46, 47, 48, 49, 50, 51, 52, 53, 54, 55, 56, 57, 58, 59, 60, 61, 62] (by decide +kernel) (by decide +kernel)
set_option maxRecDepth 20000 in
theorem gX7_requestIs_X7_refused : GoodIn wsX7_requestIs (wsV RX7 141 RX7 yX7_refused wsX7_refused) := goodIn_app (goodIn_of _ (by decide +kernel)) ggX7_requestIs_X7_refused
theorem dX7_requestIs_0 : decode cX7_requestIs 0 = .ok (.aload_n 0, 1) := by decide +kernel
theorem dX7_requestIs_1 : decode cX7_requestIs 1 = .ok (.aload_n 0, 1) := by decide +kernel
theorem dX7_requestIs_2 : decode cX7_requestIs 2 = .ok (.iload_n 1, 1) := by decide +kernel
theorem dX7_requestIs_3 : decode cX7_requestIs 3 = .ok (.invokevirtual 178, 3) := by decide +kernel
theorem dX7_requestIs_6 : decode cX7_requestIs 6 = .ok (.ifCond .ne 7, 3) := by decide +kernel
theorem dX7_requestIs_9 : decode cX7_requestIs 9 = .ok (.iconst 1, 1) := by decide +kernel
theorem dX7_requestIs_10 : decode cX7_requestIs 10 = .ok (.goto 18, 3) := by decide +kernel
theorem dX7_requestIs_13 : decode cX7_requestIs 13 = .ok (.iload_n 2, 1) := by decide +kernel
theorem dX7_requestIs_14 : decode cX7_requestIs 14 = .ok (.iconst 0, 1) := by decide +kernel
theorem dX7_requestIs_15 : decode cX7_requestIs 15 = .ok (.bipush 6, 2) := by decide +kernel
theorem dX7_requestIs_17 : decode cX7_requestIs 17 = .ok (.invokestatic 123, 3) := by decide +kernel
theorem dX7_requestIs_20 : decode cX7_requestIs 20 = .ok (.ifCond .ne 7, 3) := by decide +kernel
theorem dX7_requestIs_23 : decode cX7_requestIs 23 = .ok (.iconst 2, 1) := by decide +kernel
theorem dX7_requestIs_24 : decode cX7_requestIs 24 = .ok (.goto 4, 3) := by decide +kernel
theorem dX7_requestIs_27 : decode cX7_requestIs 27 = .ok (.iconst 0, 1) := by decide +kernel
theorem dX7_requestIs_28 : decode cX7_requestIs 28 = .ok (.invokevirtual 141, 3) := by decide +kernel
theorem dX7_requestIs_31 : decode cX7_requestIs 31 = .ok (.ifCond .eq 5, 3) := by decide +kernel
theorem dX7_requestIs_34 : decode cX7_requestIs 34 = .ok (.iconst 0, 1) := by decide +kernel
theorem dX7_requestIs_35 : decode cX7_requestIs 35 = .ok (.ireturn, 1) := by decide +kernel
theorem dX7_requestIs_36 : decode cX7_requestIs 36 = .ok (.iload_n 2, 1) := by decide +kernel
theorem dX7_requestIs_37 : decode cX7_requestIs 37 = .ok (.tableswitch 95 0 5 #[39, 46, 53, 60, 67, 74], 39) := by decide +kernel
theorem dX7_requestIs_76 : decode cX7_requestIs 76 = .ok (.aload_n 0, 1) := by decide +kernel
theorem dX7_requestIs_77 : decode cX7_requestIs 77 = .ok (.getfield 66, 3) := by decide +kernel
theorem dX7_requestIs_80 : decode cX7_requestIs 80 = .ok (.iload_n 1, 1) := by decide +kernel
theorem dX7_requestIs_81 : decode cX7_requestIs 81 = .ok (.iaload, 1) := by decide +kernel
theorem dX7_requestIs_82 : decode cX7_requestIs 82 = .ok (.ireturn, 1) := by decide +kernel
theorem dX7_requestIs_83 : decode cX7_requestIs 83 = .ok (.aload_n 0, 1) := by decide +kernel
theorem dX7_requestIs_84 : decode cX7_requestIs 84 = .ok (.getfield 81, 3) := by decide +kernel
theorem dX7_requestIs_87 : decode cX7_requestIs 87 = .ok (.iload_n 1, 1) := by decide +kernel
theorem dX7_requestIs_88 : decode cX7_requestIs 88 = .ok (.iaload, 1) := by decide +kernel
theorem dX7_requestIs_89 : decode cX7_requestIs 89 = .ok (.ireturn, 1) := by decide +kernel
theorem dX7_requestIs_90 : decode cX7_requestIs 90 = .ok (.aload_n 0, 1) := by decide +kernel
theorem dX7_requestIs_91 : decode cX7_requestIs 91 = .ok (.getfield 84, 3) := by decide +kernel
theorem dX7_requestIs_94 : decode cX7_requestIs 94 = .ok (.iload_n 1, 1) := by decide +kernel
theorem dX7_requestIs_95 : decode cX7_requestIs 95 = .ok (.iaload, 1) := by decide +kernel
theorem dX7_requestIs_96 : decode cX7_requestIs 96 = .ok (.ireturn, 1) := by decide +kernel
theorem dX7_requestIs_97 : decode cX7_requestIs 97 = .ok (.aload_n 0, 1) := by decide +kernel
theorem dX7_requestIs_98 : decode cX7_requestIs 98 = .ok (.getfield 87, 3) := by decide +kernel
theorem dX7_requestIs_101 : decode cX7_requestIs 101 = .ok (.iload_n 1, 1) := by decide +kernel
theorem dX7_requestIs_102 : decode cX7_requestIs 102 = .ok (.iaload, 1) := by decide +kernel
theorem dX7_requestIs_103 : decode cX7_requestIs 103 = .ok (.ireturn, 1) := by decide +kernel
theorem dX7_requestIs_104 : decode cX7_requestIs 104 = .ok (.aload_n 0, 1) := by decide +kernel
theorem dX7_requestIs_105 : decode cX7_requestIs 105 = .ok (.getfield 90, 3) := by decide +kernel
theorem dX7_requestIs_108 : decode cX7_requestIs 108 = .ok (.iload_n 1, 1) := by decide +kernel
theorem dX7_requestIs_109 : decode cX7_requestIs 109 = .ok (.iaload, 1) := by decide +kernel
theorem dX7_requestIs_110 : decode cX7_requestIs 110 = .ok (.ireturn, 1) := by decide +kernel
theorem dX7_requestIs_111 : decode cX7_requestIs 111 = .ok (.aload_n 0, 1) := by decide +kernel
theorem dX7_requestIs_112 : decode cX7_requestIs 112 = .ok (.getfield 90, 3) := by decide +kernel
theorem dX7_requestIs_115 : decode cX7_requestIs 115 = .ok (.iload_n 1, 1) := by decide +kernel
theorem dX7_requestIs_116 : decode cX7_requestIs 116 = .ok (.iaload, 1) := by decide +kernel
theorem dX7_requestIs_117 : decode cX7_requestIs 117 = .ok (.aload_n 0, 1) := by decide +kernel
theorem dX7_requestIs_118 : decode cX7_requestIs 118 = .ok (.getfield 87, 3) := by decide +kernel
theorem dX7_requestIs_121 : decode cX7_requestIs 121 = .ok (.iload_n 1, 1) := by decide +kernel
theorem dX7_requestIs_122 : decode cX7_requestIs 122 = .ok (.iaload, 1) := by decide +kernel
theorem dX7_requestIs_123 : decode cX7_requestIs 123 = .ok (.if_icmp .le 7, 3) := by decide +kernel
theorem dX7_requestIs_126 : decode cX7_requestIs 126 = .ok (.iconst 1, 1) := by decide +kernel
theorem dX7_requestIs_127 : decode cX7_requestIs 127 = .ok (.goto 4, 3) := by decide +kernel
theorem dX7_requestIs_130 : decode cX7_requestIs 130 = .ok (.iconst 0, 1) := by decide +kernel
theorem dX7_requestIs_131 : decode cX7_requestIs 131 = .ok (.ireturn, 1) := by decide +kernel
theorem dX7_requestIs_132 : decode cX7_requestIs 132 = .ok (.aload_n 0, 1) := by decide +kernel
theorem dX7_requestIs_133 : decode cX7_requestIs 133 = .ok (.getfield 75, 3) := by decide +kernel
theorem dX7_requestIs_136 : decode cX7_requestIs 136 = .ok (.iload_n 1, 1) := by decide +kernel
theorem dX7_requestIs_137 : decode cX7_requestIs 137 = .ok (.iaload, 1) := by decide +kernel
theorem dX7_requestIs_138 : decode cX7_requestIs 138 = .ok (.ireturn, 1) := by decide +kernel
set_option maxRecDepth 20000 in
theorem ggX7_driverIs_X7_isDriver : GoodIn wsX7_driverIs wsX7_isDriver := goodIn_r _ [10, 11, 12, 13, 9, 14, 32, 33, 34, 35, 36, 37, 38, 39, 40, 41, 42, 43, 44, 45, 46, 47, 48, 49, 50, 51, 52, 53, 54, 55, 56, 57, 58, 59, 60, 61, 62, 63, 64, 65, 66, 67, 68, 69, 70, 71, 72, 73] (by decide +kernel) (by decide +kernel)
set_option maxRecDepth 20000 in
theorem gX7_driverIs_X7_isDriver : GoodIn wsX7_driverIs (wsV RX7 158 RX7 yX7_isDriver wsX7_isDriver) := goodIn_app (goodIn_of _ (by decide +kernel)) ggX7_driverIs_X7_isDriver
set_option maxRecDepth 20000 in
theorem ggX7_driverIs_X7_in : GoodIn wsX7_driverIs wsX7_in := goodIn_r _ [14] (by decide +kernel) (by decide +kernel)
set_option maxRecDepth 20000 in
theorem gX7_driverIs_X7_in : GoodIn wsX7_driverIs (va_wsS RX7 123 yX7_in wsX7_in) := goodIn_app (goodIn_of _ (by decide +kernel)) ggX7_driverIs_X7_in
set_option maxRecDepth 20000 in
theorem ggX7_driverIs_X7_refused : GoodIn wsX7_driverIs wsX7_refused := goodIn_r _ [18, 19, 32, 33, 34, 35, 36, 37, 38, 39, 40, 41, 42, 43, 44, 45, 46, 47, 48, 49, 50, 51, 52, 53, 54, 55, 56, 57, 58, 59, 60, 61, 62, 63, 64, 65, 66, 67, 68, 69, 70, 71, 72, 73] (by decide +kernel) (by decide +kernel)
set_option maxRecDepth 20000 in
theorem gX7_driverIs_X7_refused : GoodIn wsX7_driverIs (wsV RX7 141 RX7 yX7_refused wsX7_refused) := goodIn_app (goodIn_of _ (by decide +kernel)) ggX7_driverIs_X7_refused
set_option maxRecDepth 20000 in
theorem ggX7_driverIs_X7_isFree : GoodIn wsX7_driverIs wsX7_isFree := goodIn_r _ [23, 2, 24, 25, 32, 33, 34, 35, 36, 37, 38, 39, 40, 41, 42, 43, 44, 45, 46, 47, 48, 49, 50, 51, 52, 53, 54, 55, 56, 57, 58, 59, 60, 61, 62, 63, 64, 65, 66, 67, 68, 69, 70, 71, 72, 73] (by decide +kernel) (by decide +kernel)
set_option maxRecDepth 20000 in
theorem gX7_driverIs_X7_isFree : GoodIn wsX7_driverIs (wsV RX7 148 RX7 yX7_isFree wsX7_isFree) := goodIn_app (goodIn_of _ (by decide +kernel)) ggX7_driverIs_X7_isFree
set_option maxRecDepth 20000 in
theorem ggX7_driverIs_X7_ratingOf : GoodIn wsX7_driverIs wsX7_ratingOf := goodIn_r _ [29, 30, 31, 32, 33, 34, 35, 36, 37, 38, 39, 40, 41, 42, 43, 44, 45, 46, 47, 48, 49, 50, 51, 52, 53, 54, 55, 56, 57, 58, 59, 60, 61, 62, 63, 64, 65, 66, 67, 68, 69, 70, 71, 72, 73] (by decide +kernel) (by decide +kernel)
set_option maxRecDepth 20000 in
theorem gX7_driverIs_X7_ratingOf : GoodIn wsX7_driverIs (wsV RX7 181 RX7 yX7_ratingOf wsX7_ratingOf) := goodIn_app (goodIn_of _ (by decide +kernel)) ggX7_driverIs_X7_ratingOf
