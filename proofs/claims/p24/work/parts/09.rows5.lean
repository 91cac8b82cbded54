theorem dL_isRight_87 : decode cL_isRight 87 = .ok (.invokestatic 92, 3) := by decide +kernel
theorem dL_isRight_90 : decode cL_isRight 90 = .ok (.imul, 1) := by decide +kernel
theorem dL_isRight_91 : decode cL_isRight 91 = .ok (.if_icmp .lt 22, 3) := by decide +kernel
theorem dL_isRight_94 : decode cL_isRight 94 = .ok (.aload_n 0, 1) := by decide +kernel
theorem dL_isRight_95 : decode cL_isRight 95 = .ok (.iload_n 2, 1) := by decide +kernel
theorem dL_isRight_96 : decode cL_isRight 96 = .ok (.iconst 3, 1) := by decide +kernel
theorem dL_isRight_97 : decode cL_isRight 97 = .ok (.invokestatic 92, 3) := by decide +kernel
theorem dL_isRight_100 : decode cL_isRight 100 = .ok (.ifCond .eq 9, 3) := by decide +kernel
theorem dL_isRight_103 : decode cL_isRight 103 = .ok (.iload 4, 2) := by decide +kernel
theorem dL_isRight_105 : decode cL_isRight 105 = .ok (.iconst (-1), 1) := by decide +kernel
theorem dL_isRight_106 : decode cL_isRight 106 = .ok (.if_icmp .ne 7, 3) := by decide +kernel
theorem dL_isRight_109 : decode cL_isRight 109 = .ok (.iconst 1, 1) := by decide +kernel
theorem dL_isRight_110 : decode cL_isRight 110 = .ok (.goto 4, 3) := by decide +kernel
theorem dL_isRight_113 : decode cL_isRight 113 = .ok (.iconst 0, 1) := by decide +kernel
theorem dL_isRight_114 : decode cL_isRight 114 = .ok (.istore 7, 2) := by decide +kernel
theorem dL_isRight_116 : decode cL_isRight 116 = .ok (.aload_n 3, 1) := by decide +kernel
theorem dL_isRight_117 : decode cL_isRight 117 = .ok (.iload_n 2, 1) := by decide +kernel
theorem dL_isRight_118 : decode cL_isRight 118 = .ok (.iload 6, 2) := by decide +kernel
theorem dL_isRight_120 : decode cL_isRight 120 = .ok (.iastore, 1) := by decide +kernel
theorem dL_isRight_121 : decode cL_isRight 121 = .ok (.iload 7, 2) := by decide +kernel
theorem dL_isRight_123 : decode cL_isRight 123 = .ok (.ireturn, 1) := by decide +kernel
set_option maxRecDepth 20000 in
theorem ggL_isLawful_L_best : GoodIn wsL_isLawful wsL_best := goodIn_ca (goodIn_r _ [4, 5, 6, 7, 8, 9, 10, 11, 12, 13, 14, 15, 16, 17, 18, 19, 20, 21, 22, 23, 24, 25, 26, 27, 28, 29, 30, 31, 32, 33, 34, 35, 36, 37, 38, 39, 40, 41, 42, 43, 44, 45, 46, 47, 48, 49, 50, 51, 52, 53, 54, 55, 56, 57, 58, 59, 60, 61, 62, 63, 64, 65, 66, 67, 68, 69, 70, 71, 72, 73, 74, 75, 76, 77, 78, 79, 80, 81, 82, 83, 84, 212, 213, 214, 215, 216, 217, 218, 219, 220, 221, 222, 223, 224, 225, 226, 227, 228, 229, 230, 231, 232, 233, 234, 235, 236, 237, 238, 239, 240, 241, 242, 243, 244, 245, 246, 247, 248, 249, 250, 251, 252, 253, 254, 255, 256, 257, 258, 259, 260, 261] (by decide +kernel) (by decide +kernel)) (goodIn_sub (fun _ h => List.mem_cons_of_mem _ (List.mem_append_left _ (List.mem_append_left _ (List.mem_append_right _ h)))) (by decide +kernel))
set_option maxRecDepth 20000 in
theorem gL_isLawful_L_best : GoodIn wsL_isLawful (va_wsS RL 86 yL_best wsL_best) := goodIn_app (goodIn_of _ (by decide +kernel)) ggL_isLawful_L_best
set_option maxRecDepth 20000 in
theorem ggL_isLawful_L_anew : GoodIn wsL_isLawful wsL_anew := goodIn_ca (goodIn_r _ [87, 5, 6, 88, 89, 90, 10, 91, 12, 13, 14, 15, 16, 17, 18, 19, 20, 21, 22, 23, 24, 25, 26, 27, 28, 29, 30, 31, 32, 33, 34, 35, 36, 37, 38, 39, 40, 41, 42, 43, 44, 45, 46, 47, 48, 49, 50, 51, 52, 53, 54, 55, 56, 57, 58, 59, 60, 61, 62, 63, 92, 93, 94, 95, 96, 73, 74, 75, 76, 97, 98, 99, 100, 212, 213, 214, 215, 216, 217, 218, 219, 220, 221, 222, 223, 224, 225, 226, 227, 228, 229, 230, 231, 232, 233, 234, 235, 236, 237, 238, 239, 240, 241, 242, 243, 244, 245, 246, 247, 248, 249, 250, 251, 252, 253, 254, 255, 256, 257, 258, 259, 260, 261] (by decide +kernel) (by decide +kernel)) (goodIn_sub (fun _ h => List.mem_cons_of_mem _ (List.mem_append_left _ (List.mem_append_left _ (List.mem_append_right _ h)))) (by decide +kernel))
set_option maxRecDepth 20000 in
theorem gL_isLawful_L_anew : GoodIn wsL_isLawful (va_wsS RL 108 yL_anew wsL_anew) := goodIn_app (goodIn_of _ (by decide +kernel)) ggL_isLawful_L_anew
set_option maxRecDepth 20000 in
theorem ggL_isLawful_L_requestIs : GoodIn wsL_isLawful wsL_requestIs := goodIn_ca (goodIn_ca (goodIn_r _ [103, 104, 105, 106, 107, 108, 109, 110, 10, 111, 112, 113, 114, 115, 116, 117, 20, 21, 118, 119, 120, 121, 122, 123, 124, 125, 126, 127, 128, 129, 222, 223, 224, 225, 226, 227, 228, 229, 230, 231, 232, 233, 240, 241, 242, 243, 244, 245, 246, 247, 248, 249, 250, 251, 252, 212, 213, 214, 215, 216, 217, 218, 219, 220, 221] (by decide +kernel) (by decide +kernel)) (goodIn_sub (fun _ h => List.mem_cons_of_mem _ (List.mem_append_left _ (List.mem_append_right _ h))) (by decide +kernel))) (goodIn_sub (fun _ h => List.mem_cons_of_mem _ (List.mem_append_right _ h)) (by decide +kernel))
set_option maxRecDepth 20000 in
theorem gL_isLawful_L_requestIs : GoodIn wsL_isLawful (va_wsS RL 89 yL_requestIs wsL_requestIs) := goodIn_app (goodIn_of _ (by decide +kernel)) ggL_isLawful_L_requestIs
set_option maxRecDepth 20000 in
theorem ggL_isLawful_L_isRight : GoodIn wsL_isLawful wsL_isRight := goodIn_ca (goodIn_ca (goodIn_r _ [132, 133, 134, 3, 135, 104, 105, 106, 107, 136, 137, 138, 10, 139, 140, 141, 142, 143, 116, 117, 19, 40, 118, 119, 120, 121, 122, 51, 52, 53, 54, 55, 56, 57, 58, 144, 145, 146, 147, 148, 149, 150, 151, 74, 75, 76, 152, 153, 154, 155, 156, 157, 158, 159, 160, 161, 162, 163, 164, 165, 166, 167, 168, 169, 170, 171, 172, 173, 174, 175, 176, 177, 178, 179, 180, 181, 182, 101, 102, 103, 108, 109, 110, 111, 112, 113, 114, 115, 20, 21, 123, 124, 125, 126, 127, 128, 129, 240, 241, 242, 243, 244, 245, 246, 247, 248, 249, 250, 251, 252, 258, 259, 260, 261, 212, 213, 214, 215, 216, 217, 218, 219, 220, 221, 222, 223, 224, 225, 226, 227, 228, 229, 230, 231, 232, 233] (by decide +kernel) (by decide +kernel)) (goodIn_sub (fun _ h => List.mem_cons_of_mem _ (List.mem_append_left _ (List.mem_append_right _ h))) (by decide +kernel))) (goodIn_sub (fun _ h => List.mem_cons_of_mem _ (List.mem_append_right _ h)) (by decide +kernel))
set_option maxRecDepth 20000 in
theorem gL_isLawful_L_isRight : GoodIn wsL_isLawful (va_wsS RL 111 yL_isRight wsL_isRight) := goodIn_app (goodIn_of _ (by decide +kernel)) ggL_isLawful_L_isRight
set_option maxRecDepth 20000 in
theorem ggL_isLawful_L_height : GoodIn wsL_isLawful wsL_height := goodIn_ca (goodIn_r _ [185, 104, 106, 186, 187, 188, 10, 189, 116, 117, 190, 191, 192, 193, 20, 21, 19, 40, 151, 74, 75, 76, 194, 195, 196, 197, 198, 199, 200, 51, 52, 53, 54, 55, 56, 57, 58, 212, 213, 214, 215, 216, 217, 218, 219, 220, 221, 222, 223, 224, 225, 226, 227, 228, 229, 230, 231, 232, 233, 240, 241, 242, 243, 244, 245, 246, 247, 248, 249, 250, 251, 252, 258, 259, 260, 261] (by decide +kernel) (by decide +kernel)) (goodIn_sub (fun _ h => List.mem_cons_of_mem _ (List.mem_append_left _ (List.mem_append_right _ h))) (by decide +kernel))
set_option maxRecDepth 20000 in
theorem gL_isLawful_L_height : GoodIn wsL_isLawful (va_wsS RL 99 yL_height wsL_height) := goodIn_app (goodIn_of _ (by decide +kernel)) ggL_isLawful_L_height
set_option maxRecDepth 20000 in
theorem ggL_isLawful_L_way : GoodIn wsL_isLawful wsL_way := goodIn_ca (goodIn_r _ [203, 104, 106, 204, 205, 206, 10, 207, 39, 208, 209, 210, 116, 117, 211, 49, 44, 50, 41, 42, 43, 45, 46, 47, 48, 212, 213, 214, 215, 216, 217, 218, 219, 220, 221, 253, 254, 255, 256, 257] (by decide +kernel) (by decide +kernel)) (goodIn_sub (fun _ h => List.mem_cons_of_mem _ (List.mem_append_left _ (List.mem_append_right _ h))) (by decide +kernel))
set_option maxRecDepth 20000 in
theorem gL_isLawful_L_way : GoodIn wsL_isLawful (va_wsS RL 97 yL_way wsL_way) := goodIn_app (goodIn_of _ (by decide +kernel)) ggL_isLawful_L_way
theorem dL_isLawful_0 : decode cL_isLawful 0 = .ok (.aload_n 0, 1) := by decide +kernel
theorem dL_isLawful_1 : decode cL_isLawful 1 = .ok (.invokestatic 86, 3) := by decide +kernel
theorem dL_isLawful_4 : decode cL_isLawful 4 = .ok (.istore 4, 2) := by decide +kernel
theorem dL_isLawful_6 : decode cL_isLawful 6 = .ok (.aload_n 0, 1) := by decide +kernel
theorem dL_isLawful_7 : decode cL_isLawful 7 = .ok (.invokestatic 108, 3) := by decide +kernel
theorem dL_isLawful_10 : decode cL_isLawful 10 = .ok (.iload 4, 2) := by decide +kernel
theorem dL_isLawful_12 : decode cL_isLawful 12 = .ok (.if_icmp .ne 7, 3) := by decide +kernel
theorem dL_isLawful_15 : decode cL_isLawful 15 = .ok (.iconst 1, 1) := by decide +kernel
theorem dL_isLawful_16 : decode cL_isLawful 16 = .ok (.goto 4, 3) := by decide +kernel
theorem dL_isLawful_19 : decode cL_isLawful 19 = .ok (.iconst 0, 1) := by decide +kernel
theorem dL_isLawful_20 : decode cL_isLawful 20 = .ok (.istore 5, 2) := by decide +kernel
theorem dL_isLawful_22 : decode cL_isLawful 22 = .ok (.iconst 0, 1) := by decide +kernel
theorem dL_isLawful_23 : decode cL_isLawful 23 = .ok (.istore 6, 2) := by decide +kernel
theorem dL_isLawful_25 : decode cL_isLawful 25 = .ok (.iload 6, 2) := by decide +kernel
theorem dL_isLawful_27 : decode cL_isLawful 27 = .ok (.aload_n 1, 1) := by decide +kernel
theorem dL_isLawful_28 : decode cL_isLawful 28 = .ok (.iconst 0, 1) := by decide +kernel
theorem dL_isLawful_29 : decode cL_isLawful 29 = .ok (.iaload, 1) := by decide +kernel
theorem dL_isLawful_30 : decode cL_isLawful 30 = .ok (.if_icmp .ge 216, 3) := by decide +kernel
theorem dL_isLawful_33 : decode cL_isLawful 33 = .ok (.iload 5, 2) := by decide +kernel
theorem dL_isLawful_35 : decode cL_isLawful 35 = .ok (.ifCond .eq 211, 3) := by decide +kernel
theorem dL_isLawful_38 : decode cL_isLawful 38 = .ok (.aload_n 0, 1) := by decide +kernel
theorem dL_isLawful_39 : decode cL_isLawful 39 = .ok (.iload 6, 2) := by decide +kernel
theorem dL_isLawful_41 : decode cL_isLawful 41 = .ok (.iconst 0, 1) := by decide +kernel
theorem dL_isLawful_42 : decode cL_isLawful 42 = .ok (.invokestatic 89, 3) := by decide +kernel
theorem dL_isLawful_45 : decode cL_isLawful 45 = .ok (.istore 7, 2) := by decide +kernel
theorem dL_isLawful_47 : decode cL_isLawful 47 = .ok (.aload_n 0, 1) := by decide +kernel
theorem dL_isLawful_48 : decode cL_isLawful 48 = .ok (.iload 6, 2) := by decide +kernel
theorem dL_isLawful_50 : decode cL_isLawful 50 = .ok (.iconst 3, 1) := by decide +kernel
theorem dL_isLawful_51 : decode cL_isLawful 51 = .ok (.invokestatic 89, 3) := by decide +kernel
theorem dL_isLawful_54 : decode cL_isLawful 54 = .ok (.istore 8, 2) := by decide +kernel
theorem dL_isLawful_56 : decode cL_isLawful 56 = .ok (.iload 7, 2) := by decide +kernel
theorem dL_isLawful_58 : decode cL_isLawful 58 = .ok (.aload_n 2, 1) := by decide +kernel
theorem dL_isLawful_59 : decode cL_isLawful 59 = .ok (.iconst 4, 1) := by decide +kernel
theorem dL_isLawful_60 : decode cL_isLawful 60 = .ok (.iload 6, 2) := by decide +kernel
theorem dL_isLawful_62 : decode cL_isLawful 62 = .ok (.imul, 1) := by decide +kernel
theorem dL_isLawful_63 : decode cL_isLawful 63 = .ok (.iaload, 1) := by decide +kernel
theorem dL_isLawful_64 : decode cL_isLawful 64 = .ok (.if_icmp .lt 155, 3) := by decide +kernel
theorem dL_isLawful_67 : decode cL_isLawful 67 = .ok (.aload_n 2, 1) := by decide +kernel
theorem dL_isLawful_68 : decode cL_isLawful 68 = .ok (.iconst 4, 1) := by decide +kernel
theorem dL_isLawful_69 : decode cL_isLawful 69 = .ok (.iload 6, 2) := by decide +kernel
theorem dL_isLawful_71 : decode cL_isLawful 71 = .ok (.imul, 1) := by decide +kernel
theorem dL_isLawful_72 : decode cL_isLawful 72 = .ok (.iaload, 1) := by decide +kernel
theorem dL_isLawful_73 : decode cL_isLawful 73 = .ok (.iconst 3, 1) := by decide +kernel
theorem dL_isLawful_74 : decode cL_isLawful 74 = .ok (.if_icmp .lt 14, 3) := by decide +kernel
theorem dL_isLawful_77 : decode cL_isLawful 77 = .ok (.iload 7, 2) := by decide +kernel
theorem dL_isLawful_79 : decode cL_isLawful 79 = .ok (.aload_n 2, 1) := by decide +kernel
theorem dL_isLawful_80 : decode cL_isLawful 80 = .ok (.iconst 4, 1) := by decide +kernel
theorem dL_isLawful_81 : decode cL_isLawful 81 = .ok (.iload 6, 2) := by decide +kernel
theorem dL_isLawful_83 : decode cL_isLawful 83 = .ok (.imul, 1) := by decide +kernel
theorem dL_isLawful_84 : decode cL_isLawful 84 = .ok (.iaload, 1) := by decide +kernel
theorem dL_isLawful_85 : decode cL_isLawful 85 = .ok (.if_icmp .ne 134, 3) := by decide +kernel
theorem dL_isLawful_88 : decode cL_isLawful 88 = .ok (.aload_n 0, 1) := by decide +kernel
theorem dL_isLawful_89 : decode cL_isLawful 89 = .ok (.iload 6, 2) := by decide +kernel
theorem dL_isLawful_91 : decode cL_isLawful 91 = .ok (.iconst 1, 1) := by decide +kernel
theorem dL_isLawful_92 : decode cL_isLawful 92 = .ok (.invokestatic 89, 3) := by decide +kernel
theorem dL_isLawful_95 : decode cL_isLawful 95 = .ok (.aload_n 2, 1) := by decide +kernel
theorem dL_isLawful_96 : decode cL_isLawful 96 = .ok (.iconst 4, 1) := by decide +kernel
theorem dL_isLawful_97 : decode cL_isLawful 97 = .ok (.iload 6, 2) := by decide +kernel
theorem dL_isLawful_99 : decode cL_isLawful 99 = .ok (.imul, 1) := by decide +kernel
theorem dL_isLawful_100 : decode cL_isLawful 100 = .ok (.iconst 1, 1) := by decide +kernel
theorem dL_isLawful_101 : decode cL_isLawful 101 = .ok (.iadd, 1) := by decide +kernel
theorem dL_isLawful_102 : decode cL_isLawful 102 = .ok (.iaload, 1) := by decide +kernel
theorem dL_isLawful_103 : decode cL_isLawful 103 = .ok (.if_icmp .ne 116, 3) := by decide +kernel
theorem dL_isLawful_106 : decode cL_isLawful 106 = .ok (.aload_n 0, 1) := by decide +kernel
theorem dL_isLawful_107 : decode cL_isLawful 107 = .ok (.iload 6, 2) := by decide +kernel
theorem dL_isLawful_109 : decode cL_isLawful 109 = .ok (.bipush 6, 2) := by decide +kernel
theorem dL_isLawful_111 : decode cL_isLawful 111 = .ok (.invokestatic 89, 3) := by decide +kernel
theorem dL_isLawful_114 : decode cL_isLawful 114 = .ok (.aload_n 2, 1) := by decide +kernel
theorem dL_isLawful_115 : decode cL_isLawful 115 = .ok (.iconst 4, 1) := by decide +kernel
theorem dL_isLawful_116 : decode cL_isLawful 116 = .ok (.iload 6, 2) := by decide +kernel
theorem dL_isLawful_118 : decode cL_isLawful 118 = .ok (.imul, 1) := by decide +kernel
theorem dL_isLawful_119 : decode cL_isLawful 119 = .ok (.iconst 3, 1) := by decide +kernel
theorem dL_isLawful_120 : decode cL_isLawful 120 = .ok (.iadd, 1) := by decide +kernel
theorem dL_isLawful_121 : decode cL_isLawful 121 = .ok (.iaload, 1) := by decide +kernel
theorem dL_isLawful_122 : decode cL_isLawful 122 = .ok (.if_icmp .ne 97, 3) := by decide +kernel
theorem dL_isLawful_125 : decode cL_isLawful 125 = .ok (.aload_n 2, 1) := by decide +kernel
theorem dL_isLawful_126 : decode cL_isLawful 126 = .ok (.iconst 4, 1) := by decide +kernel
theorem dL_isLawful_127 : decode cL_isLawful 127 = .ok (.iload 6, 2) := by decide +kernel
theorem dL_isLawful_129 : decode cL_isLawful 129 = .ok (.imul, 1) := by decide +kernel
theorem dL_isLawful_130 : decode cL_isLawful 130 = .ok (.iconst 2, 1) := by decide +kernel
theorem dL_isLawful_131 : decode cL_isLawful 131 = .ok (.iadd, 1) := by decide +kernel
theorem dL_isLawful_132 : decode cL_isLawful 132 = .ok (.iaload, 1) := by decide +kernel
theorem dL_isLawful_133 : decode cL_isLawful 133 = .ok (.iconst (-1), 1) := by decide +kernel
theorem dL_isLawful_134 : decode cL_isLawful 134 = .ok (.if_icmp .eq 16, 3) := by decide +kernel
theorem dL_isLawful_137 : decode cL_isLawful 137 = .ok (.iload 8, 2) := by decide +kernel
theorem dL_isLawful_139 : decode cL_isLawful 139 = .ok (.aload_n 2, 1) := by decide +kernel
theorem dL_isLawful_140 : decode cL_isLawful 140 = .ok (.iconst 4, 1) := by decide +kernel
theorem dL_isLawful_141 : decode cL_isLawful 141 = .ok (.iload 6, 2) := by decide +kernel
theorem dL_isLawful_143 : decode cL_isLawful 143 = .ok (.imul, 1) := by decide +kernel
theorem dL_isLawful_144 : decode cL_isLawful 144 = .ok (.iconst 2, 1) := by decide +kernel
theorem dL_isLawful_145 : decode cL_isLawful 145 = .ok (.iadd, 1) := by decide +kernel
theorem dL_isLawful_146 : decode cL_isLawful 146 = .ok (.iaload, 1) := by decide +kernel
theorem dL_isLawful_147 : decode cL_isLawful 147 = .ok (.if_icmp .ne 72, 3) := by decide +kernel
theorem dL_isLawful_150 : decode cL_isLawful 150 = .ok (.aload_n 0, 1) := by decide +kernel
theorem dL_isLawful_151 : decode cL_isLawful 151 = .ok (.iload 6, 2) := by decide +kernel
theorem dL_isLawful_153 : decode cL_isLawful 153 = .ok (.iconst 4, 1) := by decide +kernel
theorem dL_isLawful_154 : decode cL_isLawful 154 = .ok (.invokestatic 89, 3) := by decide +kernel
theorem dL_isLawful_157 : decode cL_isLawful 157 = .ok (.ifCond .lt 7, 3) := by decide +kernel
theorem dL_isLawful_160 : decode cL_isLawful 160 = .ok (.iconst 1, 1) := by decide +kernel
theorem dL_isLawful_161 : decode cL_isLawful 161 = .ok (.goto 4, 3) := by decide +kernel
theorem dL_isLawful_164 : decode cL_isLawful 164 = .ok (.iconst 0, 1) := by decide +kernel
theorem dL_isLawful_165 : decode cL_isLawful 165 = .ok (.iload 7, 2) := by decide +kernel
theorem dL_isLawful_167 : decode cL_isLawful 167 = .ok (.iconst 3, 1) := by decide +kernel
theorem dL_isLawful_168 : decode cL_isLawful 168 = .ok (.if_icmp .ne 7, 3) := by decide +kernel
theorem dL_isLawful_171 : decode cL_isLawful 171 = .ok (.iconst 1, 1) := by decide +kernel
theorem dL_isLawful_172 : decode cL_isLawful 172 = .ok (.goto 4, 3) := by decide +kernel
theorem dL_isLawful_175 : decode cL_isLawful 175 = .ok (.iconst 0, 1) := by decide +kernel
theorem dL_isLawful_176 : decode cL_isLawful 176 = .ok (.if_icmp .ne 43, 3) := by decide +kernel
theorem dL_isLawful_179 : decode cL_isLawful 179 = .ok (.aload_n 1, 1) := by decide +kernel
theorem dL_isLawful_180 : decode cL_isLawful 180 = .ok (.iconst 3, 1) := by decide +kernel
theorem dL_isLawful_181 : decode cL_isLawful 181 = .ok (.iaload, 1) := by decide +kernel
theorem dL_isLawful_182 : decode cL_isLawful 182 = .ok (.iconst 1, 1) := by decide +kernel
theorem dL_isLawful_183 : decode cL_isLawful 183 = .ok (.if_icmp .eq 13, 3) := by decide +kernel
theorem dL_isLawful_186 : decode cL_isLawful 186 = .ok (.aload_n 0, 1) := by decide +kernel
theorem dL_isLawful_187 : decode cL_isLawful 187 = .ok (.iload 6, 2) := by decide +kernel
theorem dL_isLawful_189 : decode cL_isLawful 189 = .ok (.iconst 5, 1) := by decide +kernel
theorem dL_isLawful_190 : decode cL_isLawful 190 = .ok (.invokestatic 89, 3) := by decide +kernel
theorem dL_isLawful_193 : decode cL_isLawful 193 = .ok (.ifCond .ne 26, 3) := by decide +kernel
theorem dL_isLawful_196 : decode cL_isLawful 196 = .ok (.iload 7, 2) := by decide +kernel
theorem dL_isLawful_198 : decode cL_isLawful 198 = .ok (.ifCond .gt 17, 3) := by decide +kernel
theorem dL_isLawful_201 : decode cL_isLawful 201 = .ok (.aload_n 1, 1) := by decide +kernel
theorem dL_isLawful_202 : decode cL_isLawful 202 = .ok (.iconst 1, 1) := by decide +kernel
theorem dL_isLawful_203 : decode cL_isLawful 203 = .ok (.iaload, 1) := by decide +kernel
theorem dL_isLawful_204 : decode cL_isLawful 204 = .ok (.aload_n 0, 1) := by decide +kernel
theorem dL_isLawful_205 : decode cL_isLawful 205 = .ok (.iload 6, 2) := by decide +kernel
theorem dL_isLawful_207 : decode cL_isLawful 207 = .ok (.bipush 6, 2) := by decide +kernel
theorem dL_isLawful_209 : decode cL_isLawful 209 = .ok (.invokestatic 89, 3) := by decide +kernel
theorem dL_isLawful_212 : decode cL_isLawful 212 = .ok (.if_icmp .ge 7, 3) := by decide +kernel
theorem dL_isLawful_215 : decode cL_isLawful 215 = .ok (.iconst 1, 1) := by decide +kernel
theorem dL_isLawful_216 : decode cL_isLawful 216 = .ok (.goto 4, 3) := by decide +kernel
theorem dL_isLawful_219 : decode cL_isLawful 219 = .ok (.iconst 0, 1) := by decide +kernel
theorem dL_isLawful_220 : decode cL_isLawful 220 = .ok (.istore 5, 2) := by decide +kernel
theorem dL_isLawful_222 : decode cL_isLawful 222 = .ok (.aload_n 2, 1) := by decide +kernel
theorem dL_isLawful_223 : decode cL_isLawful 223 = .ok (.iconst 4, 1) := by decide +kernel
theorem dL_isLawful_224 : decode cL_isLawful 224 = .ok (.iload 6, 2) := by decide +kernel
theorem dL_isLawful_226 : decode cL_isLawful 226 = .ok (.imul, 1) := by decide +kernel
theorem dL_isLawful_227 : decode cL_isLawful 227 = .ok (.iload 7, 2) := by decide +kernel
theorem dL_isLawful_229 : decode cL_isLawful 229 = .ok (.iastore, 1) := by decide +kernel
theorem dL_isLawful_230 : decode cL_isLawful 230 = .ok (.aload_n 2, 1) := by decide +kernel
theorem dL_isLawful_231 : decode cL_isLawful 231 = .ok (.iconst 4, 1) := by decide +kernel
theorem dL_isLawful_232 : decode cL_isLawful 232 = .ok (.iload 6, 2) := by decide +kernel
theorem dL_isLawful_234 : decode cL_isLawful 234 = .ok (.imul, 1) := by decide +kernel
theorem dL_isLawful_235 : decode cL_isLawful 235 = .ok (.iconst 2, 1) := by decide +kernel
theorem dL_isLawful_236 : decode cL_isLawful 236 = .ok (.iadd, 1) := by decide +kernel
theorem dL_isLawful_237 : decode cL_isLawful 237 = .ok (.iload 8, 2) := by decide +kernel
theorem dL_isLawful_239 : decode cL_isLawful 239 = .ok (.iastore, 1) := by decide +kernel
theorem dL_isLawful_240 : decode cL_isLawful 240 = .ok (.iinc 6 1, 3) := by decide +kernel
theorem dL_isLawful_243 : decode cL_isLawful 243 = .ok (.goto (-218), 3) := by decide +kernel
theorem dL_isLawful_246 : decode cL_isLawful 246 = .ok (.iconst 0, 1) := by decide +kernel
theorem dL_isLawful_247 : decode cL_isLawful 247 = .ok (.istore 6, 2) := by decide +kernel
theorem dL_isLawful_249 : decode cL_isLawful 249 = .ok (.iload 6, 2) := by decide +kernel
theorem dL_isLawful_251 : decode cL_isLawful 251 = .ok (.iconst 3, 1) := by decide +kernel
theorem dL_isLawful_252 : decode cL_isLawful 252 = .ok (.if_icmp .ge 55, 3) := by decide +kernel
theorem dL_isLawful_255 : decode cL_isLawful 255 = .ok (.iload 5, 2) := by decide +kernel
theorem dL_isLawful_257 : decode cL_isLawful 257 = .ok (.ifCond .eq 50, 3) := by decide +kernel
theorem dL_isLawful_260 : decode cL_isLawful 260 = .ok (.aload_n 0, 1) := by decide +kernel
theorem dL_isLawful_261 : decode cL_isLawful 261 = .ok (.aload_n 1, 1) := by decide +kernel
theorem dL_isLawful_262 : decode cL_isLawful 262 = .ok (.iload 6, 2) := by decide +kernel
theorem dL_isLawful_264 : decode cL_isLawful 264 = .ok (.aload_n 3, 1) := by decide +kernel
theorem dL_isLawful_265 : decode cL_isLawful 265 = .ok (.invokestatic 111, 3) := by decide +kernel
theorem dL_isLawful_268 : decode cL_isLawful 268 = .ok (.ifCond .eq 30, 3) := by decide +kernel
theorem dL_isLawful_271 : decode cL_isLawful 271 = .ok (.aload_n 0, 1) := by decide +kernel
theorem dL_isLawful_272 : decode cL_isLawful 272 = .ok (.iload 6, 2) := by decide +kernel
theorem dL_isLawful_274 : decode cL_isLawful 274 = .ok (.invokestatic 99, 3) := by decide +kernel
theorem dL_isLawful_277 : decode cL_isLawful 277 = .ok (.bipush 100, 2) := by decide +kernel
theorem dL_isLawful_279 : decode cL_isLawful 279 = .ok (.if_icmp .lt 19, 3) := by decide +kernel
theorem dL_isLawful_282 : decode cL_isLawful 282 = .ok (.aload_n 0, 1) := by decide +kernel
theorem dL_isLawful_283 : decode cL_isLawful 283 = .ok (.iload 6, 2) := by decide +kernel
theorem dL_isLawful_285 : decode cL_isLawful 285 = .ok (.invokestatic 99, 3) := by decide +kernel
theorem dL_isLawful_288 : decode cL_isLawful 288 = .ok (.aload_n 1, 1) := by decide +kernel
theorem dL_isLawful_289 : decode cL_isLawful 289 = .ok (.iconst 2, 1) := by decide +kernel
theorem dL_isLawful_290 : decode cL_isLawful 290 = .ok (.iaload, 1) := by decide +kernel
theorem dL_isLawful_291 : decode cL_isLawful 291 = .ok (.if_icmp .gt 7, 3) := by decide +kernel
theorem dL_isLawful_294 : decode cL_isLawful 294 = .ok (.iconst 1, 1) := by decide +kernel
theorem dL_isLawful_295 : decode cL_isLawful 295 = .ok (.goto 4, 3) := by decide +kernel
theorem dL_isLawful_298 : decode cL_isLawful 298 = .ok (.iconst 0, 1) := by decide +kernel
theorem dL_isLawful_299 : decode cL_isLawful 299 = .ok (.istore 5, 2) := by decide +kernel
theorem dL_isLawful_301 : decode cL_isLawful 301 = .ok (.iinc 6 1, 3) := by decide +kernel
theorem dL_isLawful_304 : decode cL_isLawful 304 = .ok (.goto (-55), 3) := by decide +kernel
theorem dL_isLawful_307 : decode cL_isLawful 307 = .ok (.iconst 0, 1) := by decide +kernel
theorem dL_isLawful_308 : decode cL_isLawful 308 = .ok (.istore 6, 2) := by decide +kernel
theorem dL_isLawful_310 : decode cL_isLawful 310 = .ok (.iload 6, 2) := by decide +kernel
theorem dL_isLawful_312 : decode cL_isLawful 312 = .ok (.bipush 36, 2) := by decide +kernel
theorem dL_isLawful_314 : decode cL_isLawful 314 = .ok (.if_icmp .ge 159, 3) := by decide +kernel
theorem dL_isLawful_317 : decode cL_isLawful 317 = .ok (.iload 5, 2) := by decide +kernel
theorem dL_isLawful_319 : decode cL_isLawful 319 = .ok (.ifCond .eq 154, 3) := by decide +kernel
theorem dL_isLawful_322 : decode cL_isLawful 322 = .ok (.aload_n 0, 1) := by decide +kernel
theorem dL_isLawful_323 : decode cL_isLawful 323 = .ok (.iload 6, 2) := by decide +kernel
theorem dL_isLawful_325 : decode cL_isLawful 325 = .ok (.bipush 6, 2) := by decide +kernel
theorem dL_isLawful_327 : decode cL_isLawful 327 = .ok (.idiv, 1) := by decide +kernel
theorem dL_isLawful_328 : decode cL_isLawful 328 = .ok (.iload 6, 2) := by decide +kernel
theorem dL_isLawful_330 : decode cL_isLawful 330 = .ok (.bipush 6, 2) := by decide +kernel
theorem dL_isLawful_332 : decode cL_isLawful 332 = .ok (.irem, 1) := by decide +kernel
theorem dL_isLawful_333 : decode cL_isLawful 333 = .ok (.invokestatic 97, 3) := by decide +kernel
theorem dL_isLawful_336 : decode cL_isLawful 336 = .ok (.istore 7, 2) := by decide +kernel
theorem dL_isLawful_338 : decode cL_isLawful 338 = .ok (.iload 7, 2) := by decide +kernel
theorem dL_isLawful_340 : decode cL_isLawful 340 = .ok (.aload_n 0, 1) := by decide +kernel
theorem dL_isLawful_341 : decode cL_isLawful 341 = .ok (.iload 6, 2) := by decide +kernel
theorem dL_isLawful_343 : decode cL_isLawful 343 = .ok (.bipush 6, 2) := by decide +kernel
theorem dL_isLawful_345 : decode cL_isLawful 345 = .ok (.irem, 1) := by decide +kernel
theorem dL_isLawful_346 : decode cL_isLawful 346 = .ok (.iload 6, 2) := by decide +kernel
theorem dL_isLawful_348 : decode cL_isLawful 348 = .ok (.bipush 6, 2) := by decide +kernel
theorem dL_isLawful_350 : decode cL_isLawful 350 = .ok (.idiv, 1) := by decide +kernel
theorem dL_isLawful_351 : decode cL_isLawful 351 = .ok (.invokestatic 97, 3) := by decide +kernel
theorem dL_isLawful_354 : decode cL_isLawful 354 = .ok (.if_icmp .ne 110, 3) := by decide +kernel
theorem dL_isLawful_357 : decode cL_isLawful 357 = .ok (.iload 6, 2) := by decide +kernel
theorem dL_isLawful_359 : decode cL_isLawful 359 = .ok (.bipush 6, 2) := by decide +kernel
theorem dL_isLawful_361 : decode cL_isLawful 361 = .ok (.idiv, 1) := by decide +kernel
theorem dL_isLawful_362 : decode cL_isLawful 362 = .ok (.iload 6, 2) := by decide +kernel
theorem dL_isLawful_364 : decode cL_isLawful 364 = .ok (.bipush 6, 2) := by decide +kernel
theorem dL_isLawful_366 : decode cL_isLawful 366 = .ok (.irem, 1) := by decide +kernel
theorem dL_isLawful_367 : decode cL_isLawful 367 = .ok (.if_icmp .ne 8, 3) := by decide +kernel
theorem dL_isLawful_370 : decode cL_isLawful 370 = .ok (.iload 7, 2) := by decide +kernel
theorem dL_isLawful_372 : decode cL_isLawful 372 = .ok (.ifCond .ne 92, 3) := by decide +kernel
theorem dL_isLawful_375 : decode cL_isLawful 375 = .ok (.aload_n 0, 1) := by decide +kernel
theorem dL_isLawful_376 : decode cL_isLawful 376 = .ok (.iload 6, 2) := by decide +kernel
theorem dL_isLawful_378 : decode cL_isLawful 378 = .ok (.bipush 6, 2) := by decide +kernel
theorem dL_isLawful_380 : decode cL_isLawful 380 = .ok (.idiv, 1) := by decide +kernel
theorem dL_isLawful_381 : decode cL_isLawful 381 = .ok (.iload 6, 2) := by decide +kernel
theorem dL_isLawful_383 : decode cL_isLawful 383 = .ok (.aload_n 1, 1) := by decide +kernel
theorem dL_isLawful_384 : decode cL_isLawful 384 = .ok (.iconst 1, 1) := by decide +kernel
theorem dL_isLawful_385 : decode cL_isLawful 385 = .ok (.iaload, 1) := by decide +kernel
theorem dL_isLawful_386 : decode cL_isLawful 386 = .ok (.iadd, 1) := by decide +kernel
theorem dL_isLawful_387 : decode cL_isLawful 387 = .ok (.iconst 5, 1) := by decide +kernel
theorem dL_isLawful_388 : decode cL_isLawful 388 = .ok (.irem, 1) := by decide +kernel
theorem dL_isLawful_389 : decode cL_isLawful 389 = .ok (.invokestatic 97, 3) := by decide +kernel
theorem dL_isLawful_392 : decode cL_isLawful 392 = .ok (.ifCond .lt 68, 3) := by decide +kernel
theorem dL_isLawful_395 : decode cL_isLawful 395 = .ok (.aload_n 0, 1) := by decide +kernel
theorem dL_isLawful_396 : decode cL_isLawful 396 = .ok (.iload 6, 2) := by decide +kernel
theorem dL_isLawful_398 : decode cL_isLawful 398 = .ok (.aload_n 1, 1) := by decide +kernel
theorem dL_isLawful_399 : decode cL_isLawful 399 = .ok (.iconst 1, 1) := by decide +kernel
theorem dL_isLawful_400 : decode cL_isLawful 400 = .ok (.iaload, 1) := by decide +kernel
theorem dL_isLawful_401 : decode cL_isLawful 401 = .ok (.iadd, 1) := by decide +kernel
theorem dL_isLawful_402 : decode cL_isLawful 402 = .ok (.iconst 5, 1) := by decide +kernel
theorem dL_isLawful_403 : decode cL_isLawful 403 = .ok (.irem, 1) := by decide +kernel
theorem dL_isLawful_404 : decode cL_isLawful 404 = .ok (.iload 6, 2) := by decide +kernel
theorem dL_isLawful_406 : decode cL_isLawful 406 = .ok (.bipush 6, 2) := by decide +kernel
theorem dL_isLawful_408 : decode cL_isLawful 408 = .ok (.irem, 1) := by decide +kernel
theorem dL_isLawful_409 : decode cL_isLawful 409 = .ok (.invokestatic 97, 3) := by decide +kernel
theorem dL_isLawful_412 : decode cL_isLawful 412 = .ok (.ifCond .lt 48, 3) := by decide +kernel
theorem dL_isLawful_415 : decode cL_isLawful 415 = .ok (.iload 7, 2) := by decide +kernel
theorem dL_isLawful_417 : decode cL_isLawful 417 = .ok (.ifCond .lt 47, 3) := by decide +kernel
theorem dL_isLawful_420 : decode cL_isLawful 420 = .ok (.iload 7, 2) := by decide +kernel
theorem dL_isLawful_422 : decode cL_isLawful 422 = .ok (.aload_n 0, 1) := by decide +kernel
theorem dL_isLawful_423 : decode cL_isLawful 423 = .ok (.iload 6, 2) := by decide +kernel
theorem dL_isLawful_425 : decode cL_isLawful 425 = .ok (.bipush 6, 2) := by decide +kernel
theorem dL_isLawful_427 : decode cL_isLawful 427 = .ok (.idiv, 1) := by decide +kernel
theorem dL_isLawful_428 : decode cL_isLawful 428 = .ok (.iload 6, 2) := by decide +kernel
theorem dL_isLawful_430 : decode cL_isLawful 430 = .ok (.aload_n 1, 1) := by decide +kernel
theorem dL_isLawful_431 : decode cL_isLawful 431 = .ok (.iconst 1, 1) := by decide +kernel
theorem dL_isLawful_432 : decode cL_isLawful 432 = .ok (.iaload, 1) := by decide +kernel
theorem dL_isLawful_433 : decode cL_isLawful 433 = .ok (.iadd, 1) := by decide +kernel
theorem dL_isLawful_434 : decode cL_isLawful 434 = .ok (.iconst 5, 1) := by decide +kernel
theorem dL_isLawful_435 : decode cL_isLawful 435 = .ok (.irem, 1) := by decide +kernel
theorem dL_isLawful_436 : decode cL_isLawful 436 = .ok (.invokestatic 97, 3) := by decide +kernel
theorem dL_isLawful_439 : decode cL_isLawful 439 = .ok (.aload_n 0, 1) := by decide +kernel
theorem dL_isLawful_440 : decode cL_isLawful 440 = .ok (.iload 6, 2) := by decide +kernel
theorem dL_isLawful_442 : decode cL_isLawful 442 = .ok (.aload_n 1, 1) := by decide +kernel
theorem dL_isLawful_443 : decode cL_isLawful 443 = .ok (.iconst 1, 1) := by decide +kernel
theorem dL_isLawful_444 : decode cL_isLawful 444 = .ok (.iaload, 1) := by decide +kernel
theorem dL_isLawful_445 : decode cL_isLawful 445 = .ok (.iadd, 1) := by decide +kernel
theorem dL_isLawful_446 : decode cL_isLawful 446 = .ok (.iconst 5, 1) := by decide +kernel
theorem dL_isLawful_447 : decode cL_isLawful 447 = .ok (.irem, 1) := by decide +kernel
theorem dL_isLawful_448 : decode cL_isLawful 448 = .ok (.iload 6, 2) := by decide +kernel
theorem dL_isLawful_450 : decode cL_isLawful 450 = .ok (.bipush 6, 2) := by decide +kernel
theorem dL_isLawful_452 : decode cL_isLawful 452 = .ok (.irem, 1) := by decide +kernel
theorem dL_isLawful_453 : decode cL_isLawful 453 = .ok (.invokestatic 97, 3) := by decide +kernel
theorem dL_isLawful_456 : decode cL_isLawful 456 = .ok (.iadd, 1) := by decide +kernel
theorem dL_isLawful_457 : decode cL_isLawful 457 = .ok (.if_icmp .gt 7, 3) := by decide +kernel
theorem dL_isLawful_460 : decode cL_isLawful 460 = .ok (.iconst 1, 1) := by decide +kernel
theorem dL_isLawful_461 : decode cL_isLawful 461 = .ok (.goto 4, 3) := by decide +kernel
theorem dL_isLawful_464 : decode cL_isLawful 464 = .ok (.iconst 0, 1) := by decide +kernel
theorem dL_isLawful_465 : decode cL_isLawful 465 = .ok (.istore 5, 2) := by decide +kernel
theorem dL_isLawful_467 : decode cL_isLawful 467 = .ok (.iinc 6 1, 3) := by decide +kernel
theorem dL_isLawful_470 : decode cL_isLawful 470 = .ok (.goto (-160), 3) := by decide +kernel
theorem dL_isLawful_473 : decode cL_isLawful 473 = .ok (.iload 5, 2) := by decide +kernel
theorem dL_isLawful_475 : decode cL_isLawful 475 = .ok (.ireturn, 1) := by decide +kernel
set_option maxRecDepth 20000 in
theorem ggL_asks_L_request : GoodIn wsL_asks wsL_request := goodIn_ca (goodIn_ca (goodIn_ca (goodIn_r _ [4, 5, 6, 7, 8, 9, 10, 11, 12, 13, 14, 15, 16, 17, 18, 19, 20, 21, 22, 23, 24, 25, 26, 27, 28, 29, 30, 31, 32, 33, 34, 35, 36, 37, 38, 39, 40, 41, 42, 43, 44, 45, 46, 47, 48, 49, 50, 51, 52, 53, 54, 55, 56, 57, 58, 59, 60, 61, 62, 63, 64, 65, 66, 67, 68, 69, 70, 71, 72, 73, 74, 75, 76, 77, 78, 79, 80, 81, 82, 83, 102, 103, 104, 105, 106, 107, 108, 109, 110, 111, 112, 113, 114, 115, 116, 117, 118, 119, 120, 121, 122, 123, 124, 125, 126, 127, 128, 129, 130, 131, 132, 133, 134, 135, 136, 137, 138, 139, 140, 141, 142, 143, 144, 145] (by decide +kernel) (by decide +kernel)) (goodIn_sub (fun _ h => List.mem_cons_of_mem _ (List.mem_append_left _ (List.mem_append_left _ (List.mem_append_right _ h)))) (by decide +kernel))) (goodIn_sub (fun _ h => List.mem_cons_of_mem _ (List.mem_append_left _ (List.mem_append_right _ h))) (by decide +kernel))) (goodIn_sub (fun _ h => List.mem_cons_of_mem _ (List.mem_append_right _ h)) (by decide +kernel))
set_option maxRecDepth 20000 in
theorem gL_asks_L_request : GoodIn wsL_asks (va_wsS RL 115 yL_request wsL_request) := goodIn_app (goodIn_of _ (by decide +kernel)) ggL_asks_L_request
set_option maxRecDepth 20000 in
theorem ggL_asks_L_isRefused : GoodIn wsL_asks wsL_isRefused := goodIn_r _ [86, 8, 9, 10] (by decide +kernel) (by decide +kernel)
set_option maxRecDepth 20000 in
theorem gL_asks_L_isRefused : GoodIn wsL_asks (va_wsS RL 118 yL_isRefused wsL_isRefused) := goodIn_app (goodIn_of _ (by decide +kernel)) ggL_asks_L_isRefused
set_option maxRecDepth 20000 in
theorem ggL_asks_L_requestIs : GoodIn wsL_asks wsL_requestIs := goodIn_ca (goodIn_ca (goodIn_r _ [89, 5, 6, 8, 9, 90, 91, 92, 14, 93, 94, 95, 96, 97, 30, 31, 21, 26, 36, 37, 38, 16, 17, 98, 99, 100, 24, 101, 83, 82, 112, 113, 114, 115, 116, 117, 118, 119, 120, 121, 122, 123, 129, 130, 131, 132, 133, 134, 135, 136, 137, 138, 139, 140, 141, 102, 103, 104, 105, 106, 107, 108, 109, 110, 111] (by decide +kernel) (by decide +kernel)) (goodIn_sub (fun _ h => List.mem_cons_of_mem _ (List.mem_append_right _ h)) (by decide +kernel))) (goodIn_sub (fun _ h => List.mem_cons_of_mem _ (List.mem_append_left _ (List.mem_append_left _ (List.mem_append_right _ h)))) (by decide +kernel))
set_option maxRecDepth 20000 in
theorem gL_asks_L_requestIs : GoodIn wsL_asks (va_wsS RL 89 yL_requestIs wsL_requestIs) := goodIn_app (goodIn_of _ (by decide +kernel)) ggL_asks_L_requestIs
theorem dL_asks_0 : decode cL_asks 0 = .ok (.aload_n 1, 1) := by decide +kernel
theorem dL_asks_1 : decode cL_asks 1 = .ok (.iconst 0, 1) := by decide +kernel
theorem dL_asks_2 : decode cL_asks 2 = .ok (.iaload, 1) := by decide +kernel
theorem dL_asks_3 : decode cL_asks 3 = .ok (.bipush 12, 2) := by decide +kernel
theorem dL_asks_5 : decode cL_asks 5 = .ok (.if_icmp .ne 5, 3) := by decide +kernel
theorem dL_asks_8 : decode cL_asks 8 = .ok (.iconst 0, 1) := by decide +kernel
theorem dL_asks_9 : decode cL_asks 9 = .ok (.ireturn, 1) := by decide +kernel
theorem dL_asks_10 : decode cL_asks 10 = .ok (.iload_n 3, 1) := by decide +kernel
theorem dL_asks_11 : decode cL_asks 11 = .ok (.bipush 36, 2) := by decide +kernel
theorem dL_asks_13 : decode cL_asks 13 = .ok (.idiv, 1) := by decide +kernel
theorem dL_asks_14 : decode cL_asks 14 = .ok (.bipush 61, 2) := by decide +kernel
theorem dL_asks_16 : decode cL_asks 16 = .ok (.irem, 1) := by decide +kernel
theorem dL_asks_17 : decode cL_asks 17 = .ok (.istore 4, 2) := by decide +kernel
theorem dL_asks_19 : decode cL_asks 19 = .ok (.aload_n 0, 1) := by decide +kernel
theorem dL_asks_20 : decode cL_asks 20 = .ok (.iload_n 3, 1) := by decide +kernel
theorem dL_asks_21 : decode cL_asks 21 = .ok (.bipush 6, 2) := by decide +kernel
theorem dL_asks_23 : decode cL_asks 23 = .ok (.irem, 1) := by decide +kernel
theorem dL_asks_24 : decode cL_asks 24 = .ok (.iload_n 3, 1) := by decide +kernel
theorem dL_asks_25 : decode cL_asks 25 = .ok (.bipush 6, 2) := by decide +kernel
theorem dL_asks_27 : decode cL_asks 27 = .ok (.idiv, 1) := by decide +kernel
theorem dL_asks_28 : decode cL_asks 28 = .ok (.bipush 6, 2) := by decide +kernel
theorem dL_asks_30 : decode cL_asks 30 = .ok (.irem, 1) := by decide +kernel
theorem dL_asks_31 : decode cL_asks 31 = .ok (.iload 4, 2) := by decide +kernel
theorem dL_asks_33 : decode cL_asks 33 = .ok (.iload_n 3, 1) := by decide +kernel
theorem dL_asks_34 : decode cL_asks 34 = .ok (.sipush 2196, 3) := by decide +kernel
theorem dL_asks_37 : decode cL_asks 37 = .ok (.idiv, 1) := by decide +kernel
theorem dL_asks_38 : decode cL_asks 38 = .ok (.iconst 4, 1) := by decide +kernel
theorem dL_asks_39 : decode cL_asks 39 = .ok (.irem, 1) := by decide +kernel
theorem dL_asks_40 : decode cL_asks 40 = .ok (.ifCond .le 7, 3) := by decide +kernel
theorem dL_asks_43 : decode cL_asks 43 = .ok (.iconst 1, 1) := by decide +kernel
theorem dL_asks_44 : decode cL_asks 44 = .ok (.goto 4, 3) := by decide +kernel
theorem dL_asks_47 : decode cL_asks 47 = .ok (.iconst 0, 1) := by decide +kernel
theorem dL_asks_48 : decode cL_asks 48 = .ok (.invokestatic 115, 3) := by decide +kernel
theorem dL_asks_51 : decode cL_asks 51 = .ok (.istore 5, 2) := by decide +kernel
theorem dL_asks_53 : decode cL_asks 53 = .ok (.iload 5, 2) := by decide +kernel
theorem dL_asks_55 : decode cL_asks 55 = .ok (.invokestatic 118, 3) := by decide +kernel
theorem dL_asks_58 : decode cL_asks 58 = .ok (.ifCond .ne 55, 3) := by decide +kernel
theorem dL_asks_61 : decode cL_asks 61 = .ok (.aload_n 2, 1) := by decide +kernel
theorem dL_asks_62 : decode cL_asks 62 = .ok (.iconst 4, 1) := by decide +kernel
theorem dL_asks_63 : decode cL_asks 63 = .ok (.iload 5, 2) := by decide +kernel
theorem dL_asks_65 : decode cL_asks 65 = .ok (.imul, 1) := by decide +kernel
theorem dL_asks_66 : decode cL_asks 66 = .ok (.iconst 0, 1) := by decide +kernel
theorem dL_asks_67 : decode cL_asks 67 = .ok (.iastore, 1) := by decide +kernel
theorem dL_asks_68 : decode cL_asks 68 = .ok (.aload_n 2, 1) := by decide +kernel
theorem dL_asks_69 : decode cL_asks 69 = .ok (.iconst 4, 1) := by decide +kernel
theorem dL_asks_70 : decode cL_asks 70 = .ok (.iload 5, 2) := by decide +kernel
theorem dL_asks_72 : decode cL_asks 72 = .ok (.imul, 1) := by decide +kernel
theorem dL_asks_73 : decode cL_asks 73 = .ok (.iconst 1, 1) := by decide +kernel
theorem dL_asks_74 : decode cL_asks 74 = .ok (.iadd, 1) := by decide +kernel
theorem dL_asks_75 : decode cL_asks 75 = .ok (.aload_n 0, 1) := by decide +kernel
theorem dL_asks_76 : decode cL_asks 76 = .ok (.iload 5, 2) := by decide +kernel
theorem dL_asks_78 : decode cL_asks 78 = .ok (.iconst 1, 1) := by decide +kernel
theorem dL_asks_79 : decode cL_asks 79 = .ok (.invokestatic 89, 3) := by decide +kernel
theorem dL_asks_82 : decode cL_asks 82 = .ok (.iastore, 1) := by decide +kernel
theorem dL_asks_83 : decode cL_asks 83 = .ok (.aload_n 2, 1) := by decide +kernel
theorem dL_asks_84 : decode cL_asks 84 = .ok (.iconst 4, 1) := by decide +kernel
theorem dL_asks_85 : decode cL_asks 85 = .ok (.iload 5, 2) := by decide +kernel
theorem dL_asks_87 : decode cL_asks 87 = .ok (.imul, 1) := by decide +kernel
theorem dL_asks_88 : decode cL_asks 88 = .ok (.iconst 2, 1) := by decide +kernel
theorem dL_asks_89 : decode cL_asks 89 = .ok (.iadd, 1) := by decide +kernel
theorem dL_asks_90 : decode cL_asks 90 = .ok (.iconst (-1), 1) := by decide +kernel
theorem dL_asks_91 : decode cL_asks 91 = .ok (.iastore, 1) := by decide +kernel
theorem dL_asks_92 : decode cL_asks 92 = .ok (.aload_n 2, 1) := by decide +kernel
theorem dL_asks_93 : decode cL_asks 93 = .ok (.iconst 4, 1) := by decide +kernel
theorem dL_asks_94 : decode cL_asks 94 = .ok (.iload 5, 2) := by decide +kernel
theorem dL_asks_96 : decode cL_asks 96 = .ok (.imul, 1) := by decide +kernel
theorem dL_asks_97 : decode cL_asks 97 = .ok (.iconst 3, 1) := by decide +kernel
theorem dL_asks_98 : decode cL_asks 98 = .ok (.iadd, 1) := by decide +kernel
theorem dL_asks_99 : decode cL_asks 99 = .ok (.aload_n 1, 1) := by decide +kernel
theorem dL_asks_100 : decode cL_asks 100 = .ok (.iconst 1, 1) := by decide +kernel
theorem dL_asks_101 : decode cL_asks 101 = .ok (.iaload, 1) := by decide +kernel
theorem dL_asks_102 : decode cL_asks 102 = .ok (.iload 4, 2) := by decide +kernel
theorem dL_asks_104 : decode cL_asks 104 = .ok (.iadd, 1) := by decide +kernel
theorem dL_asks_105 : decode cL_asks 105 = .ok (.iastore, 1) := by decide +kernel
theorem dL_asks_106 : decode cL_asks 106 = .ok (.aload_n 1, 1) := by decide +kernel
theorem dL_asks_107 : decode cL_asks 107 = .ok (.iconst 0, 1) := by decide +kernel
theorem dL_asks_108 : decode cL_asks 108 = .ok (.dup2, 1) := by decide +kernel
theorem dL_asks_109 : decode cL_asks 109 = .ok (.iaload, 1) := by decide +kernel
theorem dL_asks_110 : decode cL_asks 110 = .ok (.iconst 1, 1) := by decide +kernel
theorem dL_asks_111 : decode cL_asks 111 = .ok (.iadd, 1) := by decide +kernel
theorem dL_asks_112 : decode cL_asks 112 = .ok (.iastore, 1) := by decide +kernel
theorem dL_asks_113 : decode cL_asks 113 = .ok (.iload 5, 2) := by decide +kernel
theorem dL_asks_115 : decode cL_asks 115 = .ok (.ireturn, 1) := by decide +kernel
set_option maxRecDepth 20000 in
theorem ggL_matches_L_best : GoodIn wsL_matches wsL_best := goodIn_ca (goodIn_r _ [5, 6, 1, 7, 8, 9, 10, 11, 12, 13, 14, 15, 16, 17, 18, 19, 20, 21, 22, 23, 24, 25, 26, 27, 28, 29, 30, 31, 32, 33, 34, 35, 36, 37, 38, 39, 40, 41, 42, 43, 44, 45, 46, 47, 48, 49, 50, 51, 52, 53, 54, 55, 56, 57, 58, 59, 60, 61, 62, 63, 64, 65, 66, 67, 68, 69, 70, 71, 72, 73, 74, 75, 76, 77, 78, 79, 80, 81, 82, 83, 84, 160, 161, 162, 163, 164, 165, 166, 167, 168, 169, 170, 171, 172, 173, 174, 175, 176, 177, 178, 179, 180, 181, 182, 183, 184, 185, 186, 187, 188, 189, 190, 191, 192, 193, 194, 195, 196, 197, 198, 199, 200, 201, 202, 203, 204, 205, 206, 207, 208, 209] (by decide +kernel) (by decide +kernel)) (goodIn_sub (fun _ h => List.mem_cons_of_mem _ (List.mem_append_right _ h)) (by decide +kernel))
set_option maxRecDepth 20000 in
theorem gL_matches_L_best : GoodIn wsL_matches (va_wsS RL 86 yL_best wsL_best) := goodIn_app (goodIn_of _ (by decide +kernel)) ggL_matches_L_best
set_option maxRecDepth 20000 in
theorem ggL_matches_L_match : GoodIn wsL_matches wsL_match := goodIn_ca (goodIn_r _ [87, 6, 1, 88, 89, 90, 10, 91, 12, 40, 13, 14, 15, 16, 17, 18, 19, 20, 21, 22, 23, 24, 25, 26, 27, 28, 29, 30, 31, 32, 33, 34, 35, 36, 37, 38, 39, 41, 42, 43, 44, 45, 46, 47, 48, 49, 50, 51, 52, 53, 54, 55, 56, 57, 58, 59, 60, 61, 62, 63, 64, 65, 66, 67, 68, 69, 70, 71, 72, 73, 74, 75, 76, 77, 78, 79, 80, 81, 82, 83, 84, 92, 93, 94, 95, 96, 97, 98, 99, 100, 101, 102, 103, 104, 105, 106, 107, 108, 109, 110, 111, 112, 113, 114, 115, 116, 117, 118, 119, 120, 121, 122, 123, 124, 125, 126, 127, 128, 129, 130, 131, 132, 133, 134, 135, 136, 137, 138, 139, 140, 141, 142, 143, 144, 145, 146, 147, 148, 149, 150, 151, 152, 153, 154, 160, 161, 162, 163, 164, 165, 166, 167, 168, 169, 182, 183, 184, 185, 186, 187, 170, 171, 172, 173, 174, 175, 176, 177, 178, 179, 180, 181, 188, 189, 190, 191, 192, 193, 194, 195, 196, 197, 198, 199, 200, 201, 202, 203, 204, 205, 206, 207, 208, 209] (by decide +kernel) (by decide +kernel)) (goodIn_sub (fun _ h => List.mem_cons_of_mem _ (List.mem_append_right _ h)) (by decide +kernel))
set_option maxRecDepth 20000 in
theorem gL_matches_L_match : GoodIn wsL_matches (va_wsS RL 122 yL_match wsL_match) := goodIn_app (goodIn_of _ (by decide +kernel)) ggL_matches_L_match
set_option maxRecDepth 20000 in
theorem ggL_matches_L_isRefused : GoodIn wsL_matches wsL_isRefused := goodIn_r _ [157, 158, 159, 1] (by decide +kernel) (by decide +kernel)
set_option maxRecDepth 20000 in
theorem gL_matches_L_isRefused : GoodIn wsL_matches (va_wsS RL 118 yL_isRefused wsL_isRefused) := goodIn_app (goodIn_of _ (by decide +kernel)) ggL_matches_L_isRefused
theorem dL_matches_0 : decode cL_matches 0 = .ok (.aload_n 0, 1) := by decide +kernel
theorem dL_matches_1 : decode cL_matches 1 = .ok (.invokestatic 86, 3) := by decide +kernel
theorem dL_matches_4 : decode cL_matches 4 = .ok (.istore_n 1, 1) := by decide +kernel
theorem dL_matches_5 : decode cL_matches 5 = .ok (.aload_n 0, 1) := by decide +kernel
theorem dL_matches_6 : decode cL_matches 6 = .ok (.invokestatic 122, 3) := by decide +kernel
theorem dL_matches_9 : decode cL_matches 9 = .ok (.istore_n 2, 1) := by decide +kernel
theorem dL_matches_10 : decode cL_matches 10 = .ok (.iload_n 2, 1) := by decide +kernel
theorem dL_matches_11 : decode cL_matches 11 = .ok (.invokestatic 118, 3) := by decide +kernel
theorem dL_matches_14 : decode cL_matches 14 = .ok (.ifCond .eq 18, 3) := by decide +kernel
theorem dL_matches_17 : decode cL_matches 17 = .ok (.iload_n 1, 1) := by decide +kernel
theorem dL_matches_18 : decode cL_matches 18 = .ok (.ldc 21, 2) := by decide +kernel
theorem dL_matches_20 : decode cL_matches 20 = .ok (.if_icmp .ne 7, 3) := by decide +kernel
theorem dL_matches_23 : decode cL_matches 23 = .ok (.iload_n 2, 1) := by decide +kernel
theorem dL_matches_24 : decode cL_matches 24 = .ok (.goto 34, 3) := by decide +kernel
theorem dL_matches_27 : decode cL_matches 27 = .ok (.bipush (-5), 2) := by decide +kernel
theorem dL_matches_29 : decode cL_matches 29 = .ok (.goto 29, 3) := by decide +kernel
theorem dL_matches_32 : decode cL_matches 32 = .ok (.iload_n 2, 1) := by decide +kernel
theorem dL_matches_33 : decode cL_matches 33 = .ok (.iload_n 1, 1) := by decide +kernel
theorem dL_matches_34 : decode cL_matches 34 = .ok (.sipush 9999, 3) := by decide +kernel
theorem dL_matches_37 : decode cL_matches 37 = .ok (.iadd, 1) := by decide +kernel
theorem dL_matches_38 : decode cL_matches 38 = .ok (.sipush 10000, 3) := by decide +kernel
theorem dL_matches_41 : decode cL_matches 41 = .ok (.idiv, 1) := by decide +kernel
theorem dL_matches_42 : decode cL_matches 42 = .ok (.if_icmp .ne 14, 3) := by decide +kernel
theorem dL_matches_45 : decode cL_matches 45 = .ok (.aload_n 0, 1) := by decide +kernel
theorem dL_matches_46 : decode cL_matches 46 = .ok (.invokestatic 86, 3) := by decide +kernel
theorem dL_matches_49 : decode cL_matches 49 = .ok (.ifCond .ne 7, 3) := by decide +kernel
theorem dL_matches_52 : decode cL_matches 52 = .ok (.iload_n 2, 1) := by decide +kernel
theorem dL_matches_53 : decode cL_matches 53 = .ok (.goto 5, 3) := by decide +kernel
theorem dL_matches_56 : decode cL_matches 56 = .ok (.bipush (-5), 2) := by decide +kernel
theorem dL_matches_58 : decode cL_matches 58 = .ok (.ireturn, 1) := by decide +kernel
set_option maxRecDepth 20000 in
theorem ggL_does_L_asks : GoodIn wsL_does wsL_asks := goodIn_ca (goodIn_ca (goodIn_ca (goodIn_r _ [4, 5, 6, 3, 7, 8, 9, 10, 11, 12, 13, 14, 15, 16, 17, 18, 19, 20, 21, 22, 23, 24, 25, 26, 27, 28, 29, 30, 31, 32, 33, 34, 35, 36, 37, 38, 39, 40, 41, 42, 43, 44, 45, 46, 47, 48, 49, 50, 51, 52, 53, 54, 55, 56, 57, 58, 59, 60, 61, 62, 63, 64, 65, 66, 67, 68, 69, 70, 71, 72, 73, 74, 75, 76, 77, 78, 79, 80, 81, 82, 83, 84, 85, 86, 87, 88, 89, 90, 91, 92, 93, 94, 95, 96, 97, 98, 99, 100, 101, 102, 103, 104, 384, 385, 386, 387, 388, 389, 390, 391, 392, 393, 394, 395, 396, 397, 398, 399, 400, 401, 402, 403, 404, 405, 406, 407, 408, 409, 410, 411, 412, 413, 414, 415, 416, 417, 418, 419, 420, 421, 422, 423, 424, 425, 426, 427] (by decide +kernel) (by decide +kernel)) (goodIn_sub (fun _ h => List.mem_cons_of_mem _ (List.mem_append_left _ (List.mem_append_left _ (List.mem_append_right _ h)))) (by decide +kernel))) (goodIn_sub (fun _ h => List.mem_cons_of_mem _ (List.mem_append_left _ (List.mem_append_right _ h))) (by decide +kernel))) (goodIn_sub (fun _ h => List.mem_cons_of_mem _ (List.mem_append_right _ h)) (by decide +kernel))
set_option maxRecDepth 20000 in
theorem gL_does_L_asks : GoodIn wsL_does (va_wsS RL 124 yL_asks wsL_asks) := goodIn_app (goodIn_of _ (by decide +kernel)) ggL_does_L_asks
set_option maxRecDepth 20000 in
theorem ggL_does_L_matches : GoodIn wsL_does wsL_matches := goodIn_ca (goodIn_r _ [107, 13, 108, 109, 3, 110, 10, 111, 112, 113, 17, 114, 115, 116, 117, 118, 119, 21, 22, 56, 24, 29, 120, 121, 122, 123, 124, 125, 126, 127, 128, 129, 130, 131, 132, 133, 134, 135, 28, 23, 57, 42, 43, 44, 37, 45, 46, 47, 48, 36, 38, 66, 67, 68, 69, 70, 71, 72, 73, 136, 137, 138, 139, 140, 141, 142, 143, 144, 145, 146, 147, 148, 149, 150, 59, 60, 61, 151, 152, 153, 154, 155, 156, 157, 158, 159, 160, 161, 162, 163, 164, 165, 166, 167, 168, 169, 170, 171, 172, 173, 174, 175, 176, 177, 178, 179, 180, 181, 182, 183, 184, 185, 186, 187, 188, 189, 190, 191, 192, 193, 194, 195, 196, 197, 198, 199, 200, 201, 202, 203, 204, 205, 206, 207, 208, 209, 210, 211, 212, 213, 214, 215, 216, 217, 218, 219, 220, 221, 222, 223, 224, 225, 226, 227, 228, 87, 88, 89, 11, 12, 384, 385, 386, 387, 388, 389, 390, 391, 392, 393, 394, 395, 396, 397, 398, 399, 400, 401, 402, 403, 404, 405, 428, 429, 430, 431, 432, 433, 411, 412, 413, 414, 415, 416, 417, 418, 419, 420, 421, 422, 423, 406, 407, 408, 409, 410, 424, 425, 426, 427] (by decide +kernel) (by decide +kernel)) (goodIn_sub (fun _ h => List.mem_cons_of_mem _ (List.mem_append_left _ (List.mem_append_right _ h))) (by decide +kernel))
set_option maxRecDepth 20000 in
theorem gL_does_L_matches : GoodIn wsL_does (va_wsS RL 128 yL_matches wsL_matches) := goodIn_app (goodIn_of _ (by decide +kernel)) ggL_does_L_matches
set_option maxRecDepth 20000 in
theorem ggL_does_X6_share : GoodIn wsL_does wsX6_share := goodIn_r _ [232, 24, 29, 233, 234, 235, 17, 236, 237, 56, 57, 238, 239, 240, 241, 242, 243, 244, 245, 246, 247, 186, 248, 188, 190, 249, 250, 251, 252, 191, 253, 254, 255, 256, 257, 258, 259, 260, 261, 262, 263, 264, 265, 266, 267, 217, 218, 219, 189, 208, 209, 210, 211, 268, 43, 44, 37, 45, 46, 47, 48, 36, 38, 269, 270, 271, 272, 273, 274, 275, 276, 277, 278, 184, 185, 187, 192, 193, 194, 195, 279, 280, 281, 282, 283, 284, 285, 205, 206, 207, 286, 213, 214, 215, 287, 179, 180, 181, 182, 183, 174, 175, 176, 177, 28, 23, 178, 384, 385, 386, 387, 388, 389, 390, 391, 392, 393, 394, 395, 396, 397, 398, 399, 400, 401, 402, 403, 404, 405, 411, 412, 413, 414, 415, 416, 417, 418, 419, 420, 421, 422, 423, 434, 435, 436, 437, 438, 439, 440, 441, 442, 424, 425, 426, 427, 406, 407, 408, 409, 410] (by decide +kernel) (by decide +kernel)
set_option maxRecDepth 20000 in
theorem gL_does_X6_share : GoodIn wsL_does (wsV RL 131 RX6 yX6_share wsX6_share) := goodIn_app (goodIn_of _ (by decide +kernel)) ggL_does_X6_share
set_option maxRecDepth 20000 in
theorem ggL_does_X6_airport : GoodIn wsL_does wsX6_airport := goodIn_r _ [291, 24, 29, 292, 293, 294, 17, 295, 56, 57, 66, 67, 68, 69, 70, 71, 72, 73, 170, 171, 172, 173, 28, 23, 42, 43, 44, 37, 45, 46, 47, 48, 36, 38, 174, 175, 176, 177, 178, 179, 180, 181, 182, 183, 184, 185, 186, 187, 188, 189, 190, 191, 192, 193, 194, 195, 196, 197, 198, 199, 200, 201, 202, 203, 204, 205, 206, 207, 208, 209, 210, 211, 212, 213, 214, 215, 216, 217, 218, 219, 220, 221, 222, 223, 224, 225, 226, 227, 228, 384, 385, 386, 387, 388, 389, 390, 391, 392, 393, 394, 395, 396, 397, 398, 399, 400, 401, 402, 403, 404, 405, 411, 412, 413, 414, 415, 416, 417, 418, 419, 420, 421, 422, 423, 424, 425, 426, 427, 406, 407, 408, 409, 410] (by decide +kernel) (by decide +kernel)
set_option maxRecDepth 20000 in
theorem gL_does_X6_airport : GoodIn wsL_does (wsV RL 134 RX6 yX6_airport wsX6_airport) := goodIn_app (goodIn_of _ (by decide +kernel)) ggL_does_X6_airport
set_option maxRecDepth 20000 in
theorem ggL_does_L_slow : GoodIn wsL_does wsL_slow := goodIn_ca (goodIn_ca (goodIn_r _ [298, 8, 9, 11, 12, 299, 300, 301, 17, 302, 33, 34, 23, 39, 40, 41, 19, 20, 303, 304, 305, 37, 306, 307, 308, 309, 310, 311, 46, 47, 312, 313, 314, 315, 64, 60, 65, 316, 317, 318, 319, 384, 385, 386, 387, 388, 389, 390, 391, 392, 393, 406, 407, 408, 409, 410] (by decide +kernel) (by decide +kernel)) (goodIn_sub (fun _ h => List.mem_cons_of_mem _ (List.mem_append_right _ h)) (by decide +kernel))) (goodIn_sub (fun _ h => List.mem_cons_of_mem _ (List.mem_append_left _ (List.mem_append_left _ (List.mem_append_right _ h)))) (by decide +kernel))
set_option maxRecDepth 20000 in
theorem gL_does_L_slow : GoodIn wsL_does (va_wsS RL 137 yL_slow wsL_slow) := goodIn_app (goodIn_of _ (by decide +kernel)) ggL_does_L_slow
set_option maxRecDepth 20000 in
theorem ggL_does_L_rest : GoodIn wsL_does wsL_rest := goodIn_ca (goodIn_ca (goodIn_r _ [322, 8, 10, 11, 13, 323, 324, 325, 17, 326, 21, 22, 327, 328, 329, 330, 33, 34, 56, 57, 66, 67, 68, 69, 70, 71, 72, 73, 224, 225, 226, 227, 228, 411, 412, 413, 414, 415, 416, 417, 418, 419, 420, 421, 422, 423, 424, 425, 426, 427, 384, 385, 386, 387, 388, 389, 390, 391, 392, 393] (by decide +kernel) (by decide +kernel)) (goodIn_sub (fun _ h => List.mem_cons_of_mem _ (List.mem_append_left _ (List.mem_append_right _ h))) (by decide +kernel))) (goodIn_sub (fun _ h => List.mem_cons_of_mem _ (List.mem_append_right _ h)) (by decide +kernel))
set_option maxRecDepth 20000 in
theorem gL_does_L_rest : GoodIn wsL_does (va_wsS RL 139 yL_rest wsL_rest) := goodIn_app (goodIn_of _ (by decide +kernel)) ggL_does_L_rest
set_option maxRecDepth 20000 in
theorem ggL_does_L_wander : GoodIn wsL_does wsL_wander := goodIn_ca (goodIn_ca (goodIn_r _ [333, 8, 10, 11, 13, 334, 335, 336, 17, 337, 21, 22, 23, 28, 327, 328, 329, 330, 33, 34, 56, 57, 30, 31, 32, 35, 36, 37, 38, 42, 43, 44, 45, 46, 47, 48, 66, 67, 68, 69, 70, 71, 72, 73, 183, 184, 185, 186, 187, 188, 189, 190, 191, 192, 193, 194, 195, 384, 385, 386, 387, 388, 389, 390, 391, 392, 393, 411, 412, 413, 414, 415, 416, 417, 418, 419, 420, 421, 422, 423, 406, 407, 408, 409, 410, 424, 425, 426, 427] (by decide +kernel) (by decide +kernel)) (goodIn_sub (fun _ h => List.mem_cons_of_mem _ (List.mem_append_left _ (List.mem_append_right _ h))) (by decide +kernel))) (goodIn_sub (fun _ h => List.mem_cons_of_mem _ (List.mem_append_right _ h)) (by decide +kernel))
set_option maxRecDepth 20000 in
theorem gL_does_L_wander : GoodIn wsL_does (va_wsS RL 142 yL_wander wsL_wander) := goodIn_app (goodIn_of _ (by decide +kernel)) ggL_does_L_wander
set_option maxRecDepth 20000 in
theorem ggL_does_L_isRefused : GoodIn wsL_does wsL_isRefused := goodIn_r _ [89, 11, 12, 13] (by decide +kernel) (by decide +kernel)
set_option maxRecDepth 20000 in
theorem gL_does_L_isRefused : GoodIn wsL_does (va_wsS RL 118 yL_isRefused wsL_isRefused) := goodIn_app (goodIn_of _ (by decide +kernel)) ggL_does_L_isRefused
set_option maxRecDepth 20000 in
theorem ggL_does_L_cancel : GoodIn wsL_does wsL_cancel := goodIn_ca (goodIn_ca (goodIn_r _ [340, 8, 10, 11, 13, 341, 342, 343, 17, 344, 21, 22, 28, 97, 98, 99, 100, 33, 34, 24, 29, 345, 346, 347, 186, 348, 188, 190, 191, 349, 221, 222, 223, 208, 209, 210, 211, 192, 193, 194, 195, 189, 394, 395, 396, 397, 398, 399, 400, 401, 402, 403, 404, 405, 411, 412, 413, 414, 415, 416, 417, 418, 419, 420, 421, 422, 423, 384, 385, 386, 387, 388, 389, 390, 391, 392, 393, 424, 425, 426, 427] (by decide +kernel) (by decide +kernel)) (goodIn_sub (fun _ h => List.mem_cons_of_mem _ (List.mem_append_left _ (List.mem_append_right _ h))) (by decide +kernel))) (goodIn_sub (fun _ h => List.mem_cons_of_mem _ (List.mem_append_right _ h)) (by decide +kernel))
set_option maxRecDepth 20000 in
theorem gL_does_L_cancel : GoodIn wsL_does (va_wsS RL 144 yL_cancel wsL_cancel) := goodIn_app (goodIn_of _ (by decide +kernel)) ggL_does_L_cancel
set_option maxRecDepth 20000 in
theorem ggL_does_L_requestIs : GoodIn wsL_does wsL_requestIs := goodIn_ca (goodIn_ca (goodIn_r _ [92, 8, 9, 11, 12, 93, 94, 95, 17, 96, 97, 98, 99, 100, 33, 34, 24, 29, 39, 40, 41, 19, 20, 101, 102, 103, 27, 104, 86, 85, 394, 395, 396, 397, 398, 399, 400, 401, 402, 403, 404, 405, 411, 412, 413, 414, 415, 416, 417, 418, 419, 420, 421, 422, 423, 384, 385, 386, 387, 388, 389, 390, 391, 392, 393] (by decide +kernel) (by decide +kernel)) (goodIn_sub (fun _ h => List.mem_cons_of_mem _ (List.mem_append_right _ h)) (by decide +kernel))) (goodIn_sub (fun _ h => List.mem_cons_of_mem _ (List.mem_append_left _ (List.mem_append_left _ (List.mem_append_right _ h)))) (by decide +kernel))
set_option maxRecDepth 20000 in
theorem gL_does_L_requestIs : GoodIn wsL_does (va_wsS RL 89 yL_requestIs wsL_requestIs) := goodIn_app (goodIn_of _ (by decide +kernel)) ggL_does_L_requestIs
set_option maxRecDepth 20000 in
theorem ggL_does_L_rate : GoodIn wsL_does wsL_rate := goodIn_ca (goodIn_ca (goodIn_ca (goodIn_r _ [352, 8, 9, 10, 11, 12, 13, 353, 354, 355, 17, 356, 21, 22, 97, 98, 99, 100, 33, 34, 24, 29, 39, 40, 41, 19, 20, 66, 67, 68, 69, 70, 71, 72, 73, 357, 358, 359, 360, 361, 362, 363, 64, 60, 65, 364, 224, 225, 226, 227, 228, 394, 395, 396, 397, 398, 399, 400, 401, 402, 403, 404, 405, 411, 412, 413, 414, 415, 416, 417, 418, 419, 420, 421, 422, 423, 384, 385, 386, 387, 388, 389, 390, 391, 392, 393, 424, 425, 426, 427] (by decide +kernel) (by decide +kernel)) (goodIn_sub (fun _ h => List.mem_cons_of_mem _ (List.mem_append_left _ (List.mem_append_right _ h))) (by decide +kernel))) (goodIn_sub (fun _ h => List.mem_cons_of_mem _ (List.mem_append_right _ h)) (by decide +kernel))) (goodIn_sub (fun _ h => List.mem_cons_of_mem _ (List.mem_append_left _ (List.mem_append_left _ (List.mem_append_right _ h)))) (by decide +kernel))
set_option maxRecDepth 20000 in
theorem gL_does_L_rate : GoodIn wsL_does (va_wsS RL 146 yL_rate wsL_rate) := goodIn_app (goodIn_of _ (by decide +kernel)) ggL_does_L_rate
set_option maxRecDepth 20000 in
theorem ggL_does_L_cap : GoodIn wsL_does wsL_cap := goodIn_ca (goodIn_r _ [367, 9, 12, 368, 369, 370, 17, 371, 62, 39, 40, 41, 19, 20, 384, 385, 386, 387, 388, 389, 390, 391, 392, 393] (by decide +kernel) (by decide +kernel)) (goodIn_sub (fun _ h => List.mem_cons_of_mem _ (List.mem_append_left _ (List.mem_append_left _ (List.mem_append_right _ h)))) (by decide +kernel))
set_option maxRecDepth 20000 in
theorem gL_does_L_cap : GoodIn wsL_does (va_wsS RL 148 yL_cap wsL_cap) := goodIn_app (goodIn_of _ (by decide +kernel)) ggL_does_L_cap
set_option maxRecDepth 20000 in
theorem ggL_does_L_pass : GoodIn wsL_does wsL_pass := goodIn_ca (goodIn_ca (goodIn_r _ [374, 9, 10, 12, 13, 375, 376, 377, 17, 378, 21, 22, 28, 39, 40, 41, 19, 20, 379, 380, 381, 382, 56, 57, 24, 29, 383, 250, 251, 186, 252, 188, 191, 196, 197, 198, 199, 200, 201, 202, 203, 23, 204, 205, 206, 207, 190, 208, 209, 210, 211, 212, 213, 214, 215, 216, 217, 218, 219, 189, 220, 221, 222, 223, 192, 193, 194, 195, 42, 43, 44, 37, 45, 46, 47, 48, 36, 38, 224, 225, 226, 227, 228, 66, 67, 68, 69, 70, 71, 72, 73, 384, 385, 386, 387, 388, 389, 390, 391, 392, 393, 411, 412, 413, 414, 415, 416, 417, 418, 419, 420, 421, 422, 423, 394, 395, 396, 397, 398, 399, 400, 401, 402, 403, 404, 405, 424, 425, 426, 427, 406, 407, 408, 409, 410] (by decide +kernel) (by decide +kernel)) (goodIn_sub (fun _ h => List.mem_cons_of_mem _ (List.mem_append_left _ (List.mem_append_right _ h))) (by decide +kernel))) (goodIn_sub (fun _ h => List.mem_cons_of_mem _ (List.mem_append_left _ (List.mem_append_left _ (List.mem_append_right _ h)))) (by decide +kernel))
set_option maxRecDepth 20000 in
theorem gL_does_L_pass : GoodIn wsL_does (va_wsS RL 150 yL_pass wsL_pass) := goodIn_app (goodIn_of _ (by decide +kernel)) ggL_does_L_pass
theorem dL_does_0 : decode cL_does 0 = .ok (.iload_n 3, 1) := by decide +kernel
theorem dL_does_1 : decode cL_does 1 = .ok (.bipush 20, 2) := by decide +kernel
theorem dL_does_3 : decode cL_does 3 = .ok (.idiv, 1) := by decide +kernel
theorem dL_does_4 : decode cL_does 4 = .ok (.istore 5, 2) := by decide +kernel
theorem dL_does_6 : decode cL_does 6 = .ok (.iload_n 3, 1) := by decide +kernel
theorem dL_does_7 : decode cL_does 7 = .ok (.bipush 20, 2) := by decide +kernel
theorem dL_does_9 : decode cL_does 9 = .ok (.irem, 1) := by decide +kernel
theorem dL_does_10 : decode cL_does 10 = .ok (.tableswitch 334 0 17 #[86, 86, 86, 86, 86, 95, 95, 100, 100, 100, 105, 110, 154, 177, 218, 272, 272, 290], 86) := by decide +kernel
theorem dL_does_96 : decode cL_does 96 = .ok (.aload_n 0, 1) := by decide +kernel
theorem dL_does_97 : decode cL_does 97 = .ok (.aload_n 1, 1) := by decide +kernel
theorem dL_does_98 : decode cL_does 98 = .ok (.aload_n 2, 1) := by decide +kernel
theorem dL_does_99 : decode cL_does 99 = .ok (.iload 5, 2) := by decide +kernel
theorem dL_does_101 : decode cL_does 101 = .ok (.invokestatic 124, 3) := by decide +kernel
theorem dL_does_104 : decode cL_does 104 = .ok (.ireturn, 1) := by decide +kernel
theorem dL_does_105 : decode cL_does 105 = .ok (.aload_n 0, 1) := by decide +kernel
theorem dL_does_106 : decode cL_does 106 = .ok (.invokestatic 128, 3) := by decide +kernel
theorem dL_does_109 : decode cL_does 109 = .ok (.ireturn, 1) := by decide +kernel
theorem dL_does_110 : decode cL_does 110 = .ok (.aload_n 0, 1) := by decide +kernel
theorem dL_does_111 : decode cL_does 111 = .ok (.invokevirtual 131, 3) := by decide +kernel
theorem dL_does_114 : decode cL_does 114 = .ok (.ireturn, 1) := by decide +kernel
theorem dL_does_115 : decode cL_does 115 = .ok (.aload_n 0, 1) := by decide +kernel
theorem dL_does_116 : decode cL_does 116 = .ok (.invokevirtual 134, 3) := by decide +kernel
theorem dL_does_119 : decode cL_does 119 = .ok (.ireturn, 1) := by decide +kernel
theorem dL_does_120 : decode cL_does 120 = .ok (.aload_n 1, 1) := by decide +kernel
theorem dL_does_121 : decode cL_does 121 = .ok (.iconst 3, 1) := by decide +kernel
theorem dL_does_122 : decode cL_does 122 = .ok (.iload 4, 2) := by decide +kernel
theorem dL_does_124 : decode cL_does 124 = .ok (.ifCond .eq 7, 3) := by decide +kernel
theorem dL_does_127 : decode cL_does 127 = .ok (.iconst 1, 1) := by decide +kernel
theorem dL_does_128 : decode cL_does 128 = .ok (.goto 6, 3) := by decide +kernel
theorem dL_does_131 : decode cL_does 131 = .ok (.aload_n 1, 1) := by decide +kernel
theorem dL_does_132 : decode cL_does 132 = .ok (.iconst 3, 1) := by decide +kernel
theorem dL_does_133 : decode cL_does 133 = .ok (.iaload, 1) := by decide +kernel
theorem dL_does_134 : decode cL_does 134 = .ok (.iastore, 1) := by decide +kernel
theorem dL_does_135 : decode cL_does 135 = .ok (.iload 4, 2) := by decide +kernel
theorem dL_does_137 : decode cL_does 137 = .ok (.ifCond .eq 25, 3) := by decide +kernel
theorem dL_does_140 : decode cL_does 140 = .ok (.aload_n 0, 1) := by decide +kernel
theorem dL_does_141 : decode cL_does 141 = .ok (.iload 5, 2) := by decide +kernel
theorem dL_does_143 : decode cL_does 143 = .ok (.bipush 7, 2) := by decide +kernel
theorem dL_does_145 : decode cL_does 145 = .ok (.irem, 1) := by decide +kernel
theorem dL_does_146 : decode cL_does 146 = .ok (.iconst 1, 1) := by decide +kernel
theorem dL_does_147 : decode cL_does 147 = .ok (.iload 5, 2) := by decide +kernel
theorem dL_does_149 : decode cL_does 149 = .ok (.bipush 7, 2) := by decide +kernel
theorem dL_does_151 : decode cL_does 151 = .ok (.idiv, 1) := by decide +kernel
theorem dL_does_152 : decode cL_does 152 = .ok (.bipush 21, 2) := by decide +kernel
theorem dL_does_154 : decode cL_does 154 = .ok (.irem, 1) := by decide +kernel
theorem dL_does_155 : decode cL_does 155 = .ok (.iadd, 1) := by decide +kernel
theorem dL_does_156 : decode cL_does 156 = .ok (.invokestatic 137, 3) := by decide +kernel
theorem dL_does_159 : decode cL_does 159 = .ok (.goto 4, 3) := by decide +kernel
theorem dL_does_162 : decode cL_does 162 = .ok (.iconst 0, 1) := by decide +kernel
theorem dL_does_163 : decode cL_does 163 = .ok (.ireturn, 1) := by decide +kernel
theorem dL_does_164 : decode cL_does 164 = .ok (.aload_n 0, 1) := by decide +kernel
theorem dL_does_165 : decode cL_does 165 = .ok (.iload 5, 2) := by decide +kernel
theorem dL_does_167 : decode cL_does 167 = .ok (.iconst 4, 1) := by decide +kernel
theorem dL_does_168 : decode cL_does 168 = .ok (.irem, 1) := by decide +kernel
theorem dL_does_169 : decode cL_does 169 = .ok (.iload 5, 2) := by decide +kernel
theorem dL_does_171 : decode cL_does 171 = .ok (.iconst 4, 1) := by decide +kernel
theorem dL_does_172 : decode cL_does 172 = .ok (.idiv, 1) := by decide +kernel
theorem dL_does_173 : decode cL_does 173 = .ok (.iconst 3, 1) := by decide +kernel
theorem dL_does_174 : decode cL_does 174 = .ok (.irem, 1) := by decide +kernel
theorem dL_does_175 : decode cL_does 175 = .ok (.ifCond .ne 7, 3) := by decide +kernel
theorem dL_does_178 : decode cL_does 178 = .ok (.iconst 1, 1) := by decide +kernel
theorem dL_does_179 : decode cL_does 179 = .ok (.goto 4, 3) := by decide +kernel
theorem dL_does_182 : decode cL_does 182 = .ok (.iconst 0, 1) := by decide +kernel
theorem dL_does_183 : decode cL_does 183 = .ok (.invokestatic 139, 3) := by decide +kernel
theorem dL_does_186 : decode cL_does 186 = .ok (.ireturn, 1) := by decide +kernel
theorem dL_does_187 : decode cL_does 187 = .ok (.aload_n 0, 1) := by decide +kernel
theorem dL_does_188 : decode cL_does 188 = .ok (.iload 5, 2) := by decide +kernel
theorem dL_does_190 : decode cL_does 190 = .ok (.iconst 4, 1) := by decide +kernel
theorem dL_does_191 : decode cL_does 191 = .ok (.irem, 1) := by decide +kernel
theorem dL_does_192 : decode cL_does 192 = .ok (.iload 5, 2) := by decide +kernel
theorem dL_does_194 : decode cL_does 194 = .ok (.iconst 4, 1) := by decide +kernel
theorem dL_does_195 : decode cL_does 195 = .ok (.idiv, 1) := by decide +kernel
theorem dL_does_196 : decode cL_does 196 = .ok (.bipush 7, 2) := by decide +kernel
theorem dL_does_198 : decode cL_does 198 = .ok (.irem, 1) := by decide +kernel
theorem dL_does_199 : decode cL_does 199 = .ok (.invokestatic 142, 3) := by decide +kernel
theorem dL_does_202 : decode cL_does 202 = .ok (.istore 6, 2) := by decide +kernel
theorem dL_does_204 : decode cL_does 204 = .ok (.iload 6, 2) := by decide +kernel
theorem dL_does_206 : decode cL_does 206 = .ok (.invokestatic 118, 3) := by decide +kernel
theorem dL_does_209 : decode cL_does 209 = .ok (.ifCond .ne 11, 3) := by decide +kernel
theorem dL_does_212 : decode cL_does 212 = .ok (.iload 6, 2) := by decide +kernel
theorem dL_does_214 : decode cL_does 214 = .ok (.aload_n 1, 1) := by decide +kernel
theorem dL_does_215 : decode cL_does 215 = .ok (.iconst 1, 1) := by decide +kernel
theorem dL_does_216 : decode cL_does 216 = .ok (.iaload, 1) := by decide +kernel
theorem dL_does_217 : decode cL_does 217 = .ok (.if_icmp .le 8, 3) := by decide +kernel
theorem dL_does_220 : decode cL_does 220 = .ok (.iload 6, 2) := by decide +kernel
theorem dL_does_222 : decode cL_does 222 = .ok (.goto 5, 3) := by decide +kernel
theorem dL_does_225 : decode cL_does 225 = .ok (.bipush (-5), 2) := by decide +kernel
theorem dL_does_227 : decode cL_does 227 = .ok (.ireturn, 1) := by decide +kernel
theorem dL_does_228 : decode cL_does 228 = .ok (.aload_n 0, 1) := by decide +kernel
theorem dL_does_229 : decode cL_does 229 = .ok (.iload 5, 2) := by decide +kernel
theorem dL_does_231 : decode cL_does 231 = .ok (.bipush 13, 2) := by decide +kernel
theorem dL_does_233 : decode cL_does 233 = .ok (.irem, 1) := by decide +kernel
theorem dL_does_234 : decode cL_does 234 = .ok (.invokestatic 144, 3) := by decide +kernel
theorem dL_does_237 : decode cL_does 237 = .ok (.istore 6, 2) := by decide +kernel
theorem dL_does_239 : decode cL_does 239 = .ok (.iload 6, 2) := by decide +kernel
theorem dL_does_241 : decode cL_does 241 = .ok (.invokestatic 118, 3) := by decide +kernel
theorem dL_does_244 : decode cL_does 244 = .ok (.ifCond .ne 30, 3) := by decide +kernel
theorem dL_does_247 : decode cL_does 247 = .ok (.aload_n 0, 1) := by decide +kernel
theorem dL_does_248 : decode cL_does 248 = .ok (.iload 5, 2) := by decide +kernel
theorem dL_does_250 : decode cL_does 250 = .ok (.bipush 13, 2) := by decide +kernel
theorem dL_does_252 : decode cL_does 252 = .ok (.irem, 1) := by decide +kernel
theorem dL_does_253 : decode cL_does 253 = .ok (.iconst 0, 1) := by decide +kernel
theorem dL_does_254 : decode cL_does 254 = .ok (.invokestatic 89, 3) := by decide +kernel
theorem dL_does_257 : decode cL_does 257 = .ok (.iconst 4, 1) := by decide +kernel
theorem dL_does_258 : decode cL_does 258 = .ok (.if_icmp .ne 21, 3) := by decide +kernel
theorem dL_does_261 : decode cL_does 261 = .ok (.iload 6, 2) := by decide +kernel
theorem dL_does_263 : decode cL_does 263 = .ok (.ifCond .eq 11, 3) := by decide +kernel
theorem dL_does_266 : decode cL_does 266 = .ok (.iload 6, 2) := by decide +kernel
theorem dL_does_268 : decode cL_does 268 = .ok (.sipush 500, 3) := by decide +kernel
theorem dL_does_271 : decode cL_does 271 = .ok (.if_icmp .ne 8, 3) := by decide +kernel
theorem dL_does_274 : decode cL_does 274 = .ok (.iload 6, 2) := by decide +kernel
theorem dL_does_276 : decode cL_does 276 = .ok (.goto 5, 3) := by decide +kernel
theorem dL_does_279 : decode cL_does 279 = .ok (.bipush (-5), 2) := by decide +kernel
theorem dL_does_281 : decode cL_does 281 = .ok (.ireturn, 1) := by decide +kernel
theorem dL_does_282 : decode cL_does 282 = .ok (.aload_n 0, 1) := by decide +kernel
theorem dL_does_283 : decode cL_does 283 = .ok (.iload 5, 2) := by decide +kernel
theorem dL_does_285 : decode cL_does 285 = .ok (.bipush 13, 2) := by decide +kernel
theorem dL_does_287 : decode cL_does 287 = .ok (.irem, 1) := by decide +kernel
theorem dL_does_288 : decode cL_does 288 = .ok (.iload 5, 2) := by decide +kernel
theorem dL_does_290 : decode cL_does 290 = .ok (.bipush 13, 2) := by decide +kernel
theorem dL_does_292 : decode cL_does 292 = .ok (.idiv, 1) := by decide +kernel
theorem dL_does_293 : decode cL_does 293 = .ok (.bipush 7, 2) := by decide +kernel
theorem dL_does_295 : decode cL_does 295 = .ok (.irem, 1) := by decide +kernel
theorem dL_does_296 : decode cL_does 296 = .ok (.invokestatic 146, 3) := by decide +kernel
theorem dL_does_299 : decode cL_does 299 = .ok (.ireturn, 1) := by decide +kernel
theorem dL_does_300 : decode cL_does 300 = .ok (.aload_n 0, 1) := by decide +kernel
theorem dL_does_301 : decode cL_does 301 = .ok (.bipush 90, 2) := by decide +kernel
theorem dL_does_303 : decode cL_does 303 = .ok (.iload 5, 2) := by decide +kernel
theorem dL_does_305 : decode cL_does 305 = .ok (.sipush 211, 3) := by decide +kernel
theorem dL_does_308 : decode cL_does 308 = .ok (.irem, 1) := by decide +kernel
theorem dL_does_309 : decode cL_does 309 = .ok (.iadd, 1) := by decide +kernel
theorem dL_does_310 : decode cL_does 310 = .ok (.invokestatic 148, 3) := by decide +kernel
theorem dL_does_313 : decode cL_does 313 = .ok (.istore 6, 2) := by decide +kernel
theorem dL_does_315 : decode cL_does 315 = .ok (.aload_n 1, 1) := by decide +kernel
theorem dL_does_316 : decode cL_does 316 = .ok (.iconst 2, 1) := by decide +kernel
theorem dL_does_317 : decode cL_does 317 = .ok (.iload 6, 2) := by decide +kernel
theorem dL_does_319 : decode cL_does 319 = .ok (.invokestatic 118, 3) := by decide +kernel
theorem dL_does_322 : decode cL_does 322 = .ok (.ifCond .eq 9, 3) := by decide +kernel
theorem dL_does_325 : decode cL_does 325 = .ok (.aload_n 1, 1) := by decide +kernel
theorem dL_does_326 : decode cL_does 326 = .ok (.iconst 2, 1) := by decide +kernel
theorem dL_does_327 : decode cL_does 327 = .ok (.iaload, 1) := by decide +kernel
theorem dL_does_328 : decode cL_does 328 = .ok (.goto 12, 3) := by decide +kernel
theorem dL_does_331 : decode cL_does 331 = .ok (.bipush 90, 2) := by decide +kernel
theorem dL_does_333 : decode cL_does 333 = .ok (.iload 5, 2) := by decide +kernel
theorem dL_does_335 : decode cL_does 335 = .ok (.sipush 211, 3) := by decide +kernel
theorem dL_does_338 : decode cL_does 338 = .ok (.irem, 1) := by decide +kernel
theorem dL_does_339 : decode cL_does 339 = .ok (.iadd, 1) := by decide +kernel
theorem dL_does_340 : decode cL_does 340 = .ok (.iastore, 1) := by decide +kernel
theorem dL_does_341 : decode cL_does 341 = .ok (.iload 6, 2) := by decide +kernel
theorem dL_does_343 : decode cL_does 343 = .ok (.ireturn, 1) := by decide +kernel
theorem dL_does_344 : decode cL_does 344 = .ok (.aload_n 0, 1) := by decide +kernel
theorem dL_does_345 : decode cL_does 345 = .ok (.iload 5, 2) := by decide +kernel
theorem dL_does_347 : decode cL_does 347 = .ok (.bipush 14, 2) := by decide +kernel
theorem dL_does_349 : decode cL_does 349 = .ok (.irem, 1) := by decide +kernel
theorem dL_does_350 : decode cL_does 350 = .ok (.invokestatic 150, 3) := by decide +kernel
theorem dL_does_353 : decode cL_does 353 = .ok (.istore 6, 2) := by decide +kernel
theorem dL_does_355 : decode cL_does 355 = .ok (.aload_n 1, 1) := by decide +kernel
theorem dL_does_356 : decode cL_does 356 = .ok (.iconst 1, 1) := by decide +kernel
theorem dL_does_357 : decode cL_does 357 = .ok (.iload 6, 2) := by decide +kernel
theorem dL_does_359 : decode cL_does 359 = .ok (.invokestatic 118, 3) := by decide +kernel
theorem dL_does_362 : decode cL_does 362 = .ok (.ifCond .eq 9, 3) := by decide +kernel
theorem dL_does_365 : decode cL_does 365 = .ok (.aload_n 1, 1) := by decide +kernel
theorem dL_does_366 : decode cL_does 366 = .ok (.iconst 1, 1) := by decide +kernel
theorem dL_does_367 : decode cL_does 367 = .ok (.iaload, 1) := by decide +kernel
theorem dL_does_368 : decode cL_does 368 = .ok (.goto 5, 3) := by decide +kernel
theorem dL_does_371 : decode cL_does 371 = .ok (.iload 6, 2) := by decide +kernel
theorem dL_does_373 : decode cL_does 373 = .ok (.iastore, 1) := by decide +kernel
theorem dL_does_374 : decode cL_does 374 = .ok (.iload 6, 2) := by decide +kernel
theorem dL_does_376 : decode cL_does 376 = .ok (.ireturn, 1) := by decide +kernel
theorem dL_drives_0 : decode cL_drives 0 = .ok (.new 8, 3) := by decide +kernel
theorem dL_drives_3 : decode cL_drives 3 = .ok (.dup, 1) := by decide +kernel
theorem dL_drives_4 : decode cL_drives 4 = .ok (.invokespecial 152, 3) := by decide +kernel
theorem dL_drives_7 : decode cL_drives 7 = .ok (.astore_n 3, 1) := by decide +kernel
theorem dL_drives_8 : decode cL_drives 8 = .ok (.iconst 4, 1) := by decide +kernel
theorem dL_drives_9 : decode cL_drives 9 = .ok (.newarray .int, 2) := by decide +kernel
theorem dL_drives_11 : decode cL_drives 11 = .ok (.astore 4, 2) := by decide +kernel
theorem dL_drives_13 : decode cL_drives 13 = .ok (.bipush 48, 2) := by decide +kernel
theorem dL_drives_15 : decode cL_drives 15 = .ok (.newarray .int, 2) := by decide +kernel
theorem dL_drives_17 : decode cL_drives 17 = .ok (.astore 5, 2) := by decide +kernel
theorem dL_drives_19 : decode cL_drives 19 = .ok (.iconst 3, 1) := by decide +kernel
theorem dL_drives_20 : decode cL_drives 20 = .ok (.newarray .int, 2) := by decide +kernel
theorem dL_drives_22 : decode cL_drives 22 = .ok (.astore 6, 2) := by decide +kernel
theorem dL_drives_24 : decode cL_drives 24 = .ok (.aload 4, 2) := by decide +kernel
theorem dL_drives_26 : decode cL_drives 26 = .ok (.iconst 2, 1) := by decide +kernel
theorem dL_drives_27 : decode cL_drives 27 = .ok (.sipush 300, 3) := by decide +kernel
theorem dL_drives_30 : decode cL_drives 30 = .ok (.iastore, 1) := by decide +kernel
theorem dL_drives_31 : decode cL_drives 31 = .ok (.aload_n 0, 1) := by decide +kernel
theorem dL_drives_32 : decode cL_drives 32 = .ok (.iload_n 1, 1) := by decide +kernel
theorem dL_drives_33 : decode cL_drives 33 = .ok (.invokestatic 153, 3) := by decide +kernel
theorem dL_drives_36 : decode cL_drives 36 = .ok (.ldc 157, 2) := by decide +kernel
theorem dL_drives_38 : decode cL_drives 38 = .ok (.irem, 1) := by decide +kernel
theorem dL_drives_39 : decode cL_drives 39 = .ok (.istore 7, 2) := by decide +kernel
theorem dL_drives_41 : decode cL_drives 41 = .ok (.iconst 1, 1) := by decide +kernel
theorem dL_drives_42 : decode cL_drives 42 = .ok (.istore 8, 2) := by decide +kernel
theorem dL_drives_44 : decode cL_drives 44 = .ok (.iconst 0, 1) := by decide +kernel
theorem dL_drives_45 : decode cL_drives 45 = .ok (.istore 9, 2) := by decide +kernel
theorem dL_drives_47 : decode cL_drives 47 = .ok (.iload 9, 2) := by decide +kernel
theorem dL_drives_49 : decode cL_drives 49 = .ok (.iconst 5, 1) := by decide +kernel
theorem dL_drives_50 : decode cL_drives 50 = .ok (.if_icmp .ge 60, 3) := by decide +kernel
theorem dL_drives_53 : decode cL_drives 53 = .ok (.iload 8, 2) := by decide +kernel
theorem dL_drives_55 : decode cL_drives 55 = .ok (.ifCond .eq 55, 3) := by decide +kernel
theorem dL_drives_58 : decode cL_drives 58 = .ok (.aload_n 3, 1) := by decide +kernel
theorem dL_drives_59 : decode cL_drives 59 = .ok (.iload 9, 2) := by decide +kernel
theorem dL_drives_61 : decode cL_drives 61 = .ok (.iload 9, 2) := by decide +kernel
theorem dL_drives_63 : decode cL_drives 63 = .ok (.iconst 1, 1) := by decide +kernel
theorem dL_drives_64 : decode cL_drives 64 = .ok (.iadd, 1) := by decide +kernel
theorem dL_drives_65 : decode cL_drives 65 = .ok (.iload 7, 2) := by decide +kernel
theorem dL_drives_67 : decode cL_drives 67 = .ok (.iconst 2, 1) := by decide +kernel
theorem dL_drives_68 : decode cL_drives 68 = .ok (.irem, 1) := by decide +kernel
theorem dL_drives_69 : decode cL_drives 69 = .ok (.iadd, 1) := by decide +kernel
theorem dL_drives_70 : decode cL_drives 70 = .ok (.bipush 6, 2) := by decide +kernel
theorem dL_drives_72 : decode cL_drives 72 = .ok (.irem, 1) := by decide +kernel
theorem dL_drives_73 : decode cL_drives 73 = .ok (.iconst 1, 1) := by decide +kernel
theorem dL_drives_74 : decode cL_drives 74 = .ok (.iload 7, 2) := by decide +kernel
theorem dL_drives_76 : decode cL_drives 76 = .ok (.iconst 2, 1) := by decide +kernel
theorem dL_drives_77 : decode cL_drives 77 = .ok (.idiv, 1) := by decide +kernel
theorem dL_drives_78 : decode cL_drives 78 = .ok (.bipush 9, 2) := by decide +kernel
theorem dL_drives_80 : decode cL_drives 80 = .ok (.irem, 1) := by decide +kernel
theorem dL_drives_81 : decode cL_drives 81 = .ok (.iadd, 1) := by decide +kernel
theorem dL_drives_82 : decode cL_drives 82 = .ok (.invokestatic 158, 3) := by decide +kernel
theorem dL_drives_85 : decode cL_drives 85 = .ok (.iload 9, 2) := by decide +kernel
theorem dL_drives_87 : decode cL_drives 87 = .ok (.if_icmp .ne 7, 3) := by decide +kernel
theorem dL_drives_90 : decode cL_drives 90 = .ok (.iconst 1, 1) := by decide +kernel
theorem dL_drives_91 : decode cL_drives 91 = .ok (.goto 4, 3) := by decide +kernel
theorem dL_drives_94 : decode cL_drives 94 = .ok (.iconst 0, 1) := by decide +kernel
theorem dL_drives_95 : decode cL_drives 95 = .ok (.istore 8, 2) := by decide +kernel
theorem dL_drives_97 : decode cL_drives 97 = .ok (.iload 7, 2) := by decide +kernel
theorem dL_drives_99 : decode cL_drives 99 = .ok (.bipush 18, 2) := by decide +kernel
theorem dL_drives_101 : decode cL_drives 101 = .ok (.idiv, 1) := by decide +kernel
theorem dL_drives_102 : decode cL_drives 102 = .ok (.istore 7, 2) := by decide +kernel
theorem dL_drives_104 : decode cL_drives 104 = .ok (.iinc 9 1, 3) := by decide +kernel
theorem dL_drives_107 : decode cL_drives 107 = .ok (.goto (-60), 3) := by decide +kernel
theorem dL_drives_110 : decode cL_drives 110 = .ok (.iconst 0, 1) := by decide +kernel
theorem dL_drives_111 : decode cL_drives 111 = .ok (.istore 9, 2) := by decide +kernel
theorem dL_drives_113 : decode cL_drives 113 = .ok (.iload 9, 2) := by decide +kernel
theorem dL_drives_115 : decode cL_drives 115 = .ok (.iconst 3, 1) := by decide +kernel
theorem dL_drives_116 : decode cL_drives 116 = .ok (.if_icmp .ge 45, 3) := by decide +kernel
theorem dL_drives_119 : decode cL_drives 119 = .ok (.iload 8, 2) := by decide +kernel
theorem dL_drives_121 : decode cL_drives 121 = .ok (.ifCond .eq 40, 3) := by decide +kernel
theorem dL_drives_124 : decode cL_drives 124 = .ok (.aload_n 3, 1) := by decide +kernel
theorem dL_drives_125 : decode cL_drives 125 = .ok (.aload_n 0, 1) := by decide +kernel
theorem dL_drives_126 : decode cL_drives 126 = .ok (.iload_n 1, 1) := by decide +kernel
theorem dL_drives_127 : decode cL_drives 127 = .ok (.iconst 1, 1) := by decide +kernel
theorem dL_drives_128 : decode cL_drives 128 = .ok (.iadd, 1) := by decide +kernel
theorem dL_drives_129 : decode cL_drives 129 = .ok (.invokestatic 153, 3) := by decide +kernel
theorem dL_drives_132 : decode cL_drives 132 = .ok (.iload 9, 2) := by decide +kernel
theorem dL_drives_134 : decode cL_drives 134 = .ok (.iconst 1, 1) := by decide +kernel
theorem dL_drives_135 : decode cL_drives 135 = .ok (.iadd, 1) := by decide +kernel
theorem dL_drives_136 : decode cL_drives 136 = .ok (.idiv, 1) := by decide +kernel
theorem dL_drives_137 : decode cL_drives 137 = .ok (.bipush 6, 2) := by decide +kernel
theorem dL_drives_139 : decode cL_drives 139 = .ok (.irem, 1) := by decide +kernel
theorem dL_drives_140 : decode cL_drives 140 = .ok (.invokestatic 161, 3) := by decide +kernel
theorem dL_drives_143 : decode cL_drives 143 = .ok (.iload 9, 2) := by decide +kernel
theorem dL_drives_145 : decode cL_drives 145 = .ok (.if_icmp .ne 7, 3) := by decide +kernel
theorem dL_drives_148 : decode cL_drives 148 = .ok (.iconst 1, 1) := by decide +kernel
theorem dL_drives_149 : decode cL_drives 149 = .ok (.goto 4, 3) := by decide +kernel
theorem dL_drives_152 : decode cL_drives 152 = .ok (.iconst 0, 1) := by decide +kernel
theorem dL_drives_153 : decode cL_drives 153 = .ok (.istore 8, 2) := by decide +kernel
theorem dL_drives_155 : decode cL_drives 155 = .ok (.iinc 9 1, 3) := by decide +kernel
theorem dL_drives_158 : decode cL_drives 158 = .ok (.goto (-45), 3) := by decide +kernel
theorem dL_drives_161 : decode cL_drives 161 = .ok (.iconst 2, 1) := by decide +kernel
theorem dL_drives_162 : decode cL_drives 162 = .ok (.istore 9, 2) := by decide +kernel
theorem dL_drives_164 : decode cL_drives 164 = .ok (.iload 9, 2) := by decide +kernel
theorem dL_drives_166 : decode cL_drives 166 = .ok (.bipush 45, 2) := by decide +kernel
theorem dL_drives_168 : decode cL_drives 168 = .ok (.if_icmp .ge 130, 3) := by decide +kernel
theorem dL_drives_171 : decode cL_drives 171 = .ok (.iload 8, 2) := by decide +kernel
theorem dL_drives_173 : decode cL_drives 173 = .ok (.ifCond .eq 125, 3) := by decide +kernel
theorem dL_drives_176 : decode cL_drives 176 = .ok (.aload_n 0, 1) := by decide +kernel
theorem dL_drives_177 : decode cL_drives 177 = .ok (.iload_n 1, 1) := by decide +kernel
theorem dL_drives_178 : decode cL_drives 178 = .ok (.iload 9, 2) := by decide +kernel
theorem dL_drives_180 : decode cL_drives 180 = .ok (.iadd, 1) := by decide +kernel
theorem dL_drives_181 : decode cL_drives 181 = .ok (.invokestatic 153, 3) := by decide +kernel
theorem dL_drives_184 : decode cL_drives 184 = .ok (.ldc 157, 2) := by decide +kernel
theorem dL_drives_186 : decode cL_drives 186 = .ok (.irem, 1) := by decide +kernel
theorem dL_drives_187 : decode cL_drives 187 = .ok (.istore 10, 2) := by decide +kernel
theorem dL_drives_189 : decode cL_drives 189 = .ok (.iload 9, 2) := by decide +kernel
theorem dL_drives_191 : decode cL_drives 191 = .ok (.iconst 5, 1) := by decide +kernel
theorem dL_drives_192 : decode cL_drives 192 = .ok (.if_icmp .ge 14, 3) := by decide +kernel
theorem dL_drives_195 : decode cL_drives 195 = .ok (.bipush 20, 2) := by decide +kernel
theorem dL_drives_197 : decode cL_drives 197 = .ok (.iload 10, 2) := by decide +kernel
theorem dL_drives_199 : decode cL_drives 199 = .ok (.bipush 20, 2) := by decide +kernel
theorem dL_drives_201 : decode cL_drives 201 = .ok (.idiv, 1) := by decide +kernel
theorem dL_drives_202 : decode cL_drives 202 = .ok (.imul, 1) := by decide +kernel
theorem dL_drives_203 : decode cL_drives 203 = .ok (.goto 24, 3) := by decide +kernel
theorem dL_drives_206 : decode cL_drives 206 = .ok (.iload 9, 2) := by decide +kernel
theorem dL_drives_208 : decode cL_drives 208 = .ok (.iconst 5, 1) := by decide +kernel
theorem dL_drives_209 : decode cL_drives 209 = .ok (.if_icmp .ne 16, 3) := by decide +kernel
theorem dL_drives_212 : decode cL_drives 212 = .ok (.bipush 20, 2) := by decide +kernel
theorem dL_drives_214 : decode cL_drives 214 = .ok (.iload 10, 2) := by decide +kernel
theorem dL_drives_216 : decode cL_drives 216 = .ok (.bipush 20, 2) := by decide +kernel
theorem dL_drives_218 : decode cL_drives 218 = .ok (.idiv, 1) := by decide +kernel
theorem dL_drives_219 : decode cL_drives 219 = .ok (.imul, 1) := by decide +kernel
theorem dL_drives_220 : decode cL_drives 220 = .ok (.iconst 5, 1) := by decide +kernel
theorem dL_drives_221 : decode cL_drives 221 = .ok (.iadd, 1) := by decide +kernel
theorem dL_drives_222 : decode cL_drives 222 = .ok (.goto 5, 3) := by decide +kernel
theorem dL_drives_225 : decode cL_drives 225 = .ok (.iload 10, 2) := by decide +kernel
theorem dL_drives_227 : decode cL_drives 227 = .ok (.istore 10, 2) := by decide +kernel
theorem dL_drives_229 : decode cL_drives 229 = .ok (.aload_n 3, 1) := by decide +kernel
theorem dL_drives_230 : decode cL_drives 230 = .ok (.invokestatic 163, 3) := by decide +kernel
theorem dL_drives_233 : decode cL_drives 233 = .ok (.istore 11, 2) := by decide +kernel
theorem dL_drives_235 : decode cL_drives 235 = .ok (.aload_n 3, 1) := by decide +kernel
theorem dL_drives_236 : decode cL_drives 236 = .ok (.aload 4, 2) := by decide +kernel
theorem dL_drives_238 : decode cL_drives 238 = .ok (.aload 5, 2) := by decide +kernel
theorem dL_drives_240 : decode cL_drives 240 = .ok (.iload 10, 2) := by decide +kernel
theorem dL_drives_242 : decode cL_drives 242 = .ok (.iload_n 2, 1) := by decide +kernel
theorem dL_drives_243 : decode cL_drives 243 = .ok (.invokestatic 166, 3) := by decide +kernel
theorem dL_drives_246 : decode cL_drives 246 = .ok (.istore 12, 2) := by decide +kernel
theorem dL_drives_248 : decode cL_drives 248 = .ok (.iload 12, 2) := by decide +kernel
theorem dL_drives_250 : decode cL_drives 250 = .ok (.bipush (-5), 2) := by decide +kernel
theorem dL_drives_252 : decode cL_drives 252 = .ok (.if_icmp .eq 37, 3) := by decide +kernel
theorem dL_drives_255 : decode cL_drives 255 = .ok (.iload 12, 2) := by decide +kernel
theorem dL_drives_257 : decode cL_drives 257 = .ok (.invokestatic 118, 3) := by decide +kernel
theorem dL_drives_260 : decode cL_drives 260 = .ok (.ifCond .eq 12, 3) := by decide +kernel
theorem dL_drives_263 : decode cL_drives 263 = .ok (.aload_n 3, 1) := by decide +kernel
theorem dL_drives_264 : decode cL_drives 264 = .ok (.invokestatic 163, 3) := by decide +kernel
theorem dL_drives_267 : decode cL_drives 267 = .ok (.iload 11, 2) := by decide +kernel
theorem dL_drives_269 : decode cL_drives 269 = .ok (.if_icmp .ne 20, 3) := by decide +kernel
theorem dL_drives_272 : decode cL_drives 272 = .ok (.aload_n 3, 1) := by decide +kernel
theorem dL_drives_273 : decode cL_drives 273 = .ok (.aload 4, 2) := by decide +kernel
theorem dL_drives_275 : decode cL_drives 275 = .ok (.aload 5, 2) := by decide +kernel
theorem dL_drives_277 : decode cL_drives 277 = .ok (.aload 6, 2) := by decide +kernel
theorem dL_drives_279 : decode cL_drives 279 = .ok (.invokestatic 170, 3) := by decide +kernel
theorem dL_drives_282 : decode cL_drives 282 = .ok (.ifCond .eq 7, 3) := by decide +kernel
theorem dL_drives_285 : decode cL_drives 285 = .ok (.iconst 1, 1) := by decide +kernel
theorem dL_drives_286 : decode cL_drives 286 = .ok (.goto 4, 3) := by decide +kernel
theorem dL_drives_289 : decode cL_drives 289 = .ok (.iconst 0, 1) := by decide +kernel
theorem dL_drives_290 : decode cL_drives 290 = .ok (.istore 8, 2) := by decide +kernel
theorem dL_drives_292 : decode cL_drives 292 = .ok (.iinc 9 1, 3) := by decide +kernel
theorem dL_drives_295 : decode cL_drives 295 = .ok (.goto (-131), 3) := by decide +kernel
theorem dL_drives_298 : decode cL_drives 298 = .ok (.iload 8, 2) := by decide +kernel
theorem dL_drives_300 : decode cL_drives 300 = .ok (.ireturn, 1) := by decide +kernel
theorem dL_law_0 : decode cL_law 0 = .ok (.aload_n 0, 1) := by decide +kernel
theorem dL_law_1 : decode cL_law 1 = .ok (.iconst 0, 1) := by decide +kernel
theorem dL_law_2 : decode cL_law 2 = .ok (.iconst 0, 1) := by decide +kernel
theorem dL_law_3 : decode cL_law 3 = .ok (.invokestatic 174, 3) := by decide +kernel
theorem dL_law_6 : decode cL_law 6 = .ok (.ifCond .eq 38, 3) := by decide +kernel
theorem dL_law_9 : decode cL_law 9 = .ok (.aload_n 0, 1) := by decide +kernel
theorem dL_law_10 : decode cL_law 10 = .ok (.bipush 45, 2) := by decide +kernel
theorem dL_law_12 : decode cL_law 12 = .ok (.iconst 1, 1) := by decide +kernel
theorem dL_law_13 : decode cL_law 13 = .ok (.invokestatic 174, 3) := by decide +kernel
theorem dL_law_16 : decode cL_law 16 = .ok (.ifCond .eq 28, 3) := by decide +kernel
theorem dL_law_19 : decode cL_law 19 = .ok (.aload_n 0, 1) := by decide +kernel
theorem dL_law_20 : decode cL_law 20 = .ok (.bipush 90, 2) := by decide +kernel
theorem dL_law_22 : decode cL_law 22 = .ok (.iconst 0, 1) := by decide +kernel
theorem dL_law_23 : decode cL_law 23 = .ok (.invokestatic 174, 3) := by decide +kernel
theorem dL_law_26 : decode cL_law 26 = .ok (.ifCond .eq 18, 3) := by decide +kernel
theorem dL_law_29 : decode cL_law 29 = .ok (.aload_n 0, 1) := by decide +kernel
theorem dL_law_30 : decode cL_law 30 = .ok (.sipush 135, 3) := by decide +kernel
theorem dL_law_33 : decode cL_law 33 = .ok (.iconst 1, 1) := by decide +kernel
theorem dL_law_34 : decode cL_law 34 = .ok (.invokestatic 174, 3) := by decide +kernel
theorem dL_law_37 : decode cL_law 37 = .ok (.ifCond .eq 7, 3) := by decide +kernel
theorem dL_law_40 : decode cL_law 40 = .ok (.iconst 1, 1) := by decide +kernel
theorem dL_law_41 : decode cL_law 41 = .ok (.goto 4, 3) := by decide +kernel
theorem dL_law_44 : decode cL_law 44 = .ok (.iconst 0, 1) := by decide +kernel
theorem dL_law_45 : decode cL_law 45 = .ok (.ireturn, 1) := by decide +kernel
abbrev vwCl : List vw_C := [(RX0, TX0, 5), (RX1, TX1, 13), (RX2, TX2, 6), (RX3, TX3, 12), (RX4, TX4, 4), (RX5, TX5, 9), (RX6, TX6, 10)]
