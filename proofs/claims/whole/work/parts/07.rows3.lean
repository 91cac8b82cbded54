theorem dX6_doNextStop_0 : decode cX6_doNextStop 0 = .ok (.aload_n 1, 1) := by decide +kernel
theorem dX6_doNextStop_1 : decode cX6_doNextStop 1 = .ok (.getfield 106, 3) := by decide +kernel
theorem dX6_doNextStop_4 : decode cX6_doNextStop 4 = .ok (.astore_n 2, 1) := by decide +kernel
theorem dX6_doNextStop_5 : decode cX6_doNextStop 5 = .ok (.aload_n 2, 1) := by decide +kernel
theorem dX6_doNextStop_6 : decode cX6_doNextStop 6 = .ok (.iconst 0, 1) := by decide +kernel
theorem dX6_doNextStop_7 : decode cX6_doNextStop 7 = .ok (.invokevirtual 250, 3) := by decide +kernel
theorem dX6_doNextStop_10 : decode cX6_doNextStop 10 = .ok (.astore_n 3, 1) := by decide +kernel
theorem dX6_doNextStop_11 : decode cX6_doNextStop 11 = .ok (.aload_n 3, 1) := by decide +kernel
theorem dX6_doNextStop_12 : decode cX6_doNextStop 12 = .ok (.ifnull 50, 3) := by decide +kernel
theorem dX6_doNextStop_15 : decode cX6_doNextStop 15 = .ok (.aload_n 2, 1) := by decide +kernel
theorem dX6_doNextStop_16 : decode cX6_doNextStop 16 = .ok (.iconst 0, 1) := by decide +kernel
theorem dX6_doNextStop_17 : decode cX6_doNextStop 17 = .ok (.invokevirtual 253, 3) := by decide +kernel
theorem dX6_doNextStop_20 : decode cX6_doNextStop 20 = .ok (.ifCond .eq 42, 3) := by decide +kernel
theorem dX6_doNextStop_23 : decode cX6_doNextStop 23 = .ok (.aload_n 3, 1) := by decide +kernel
theorem dX6_doNextStop_24 : decode cX6_doNextStop 24 = .ok (.iconst 3, 1) := by decide +kernel
theorem dX6_doNextStop_25 : decode cX6_doNextStop 25 = .ok (.putfield 168, 3) := by decide +kernel
theorem dX6_doNextStop_28 : decode cX6_doNextStop 28 = .ok (.aload_n 3, 1) := by decide +kernel
theorem dX6_doNextStop_29 : decode cX6_doNextStop 29 = .ok (.aload_n 0, 1) := by decide +kernel
theorem dX6_doNextStop_30 : decode cX6_doNextStop 30 = .ok (.getfield 134, 3) := by decide +kernel
theorem dX6_doNextStop_33 : decode cX6_doNextStop 33 = .ok (.putfield 233, 3) := by decide +kernel
theorem dX6_doNextStop_36 : decode cX6_doNextStop 36 = .ok (.aload_n 1, 1) := by decide +kernel
theorem dX6_doNextStop_37 : decode cX6_doNextStop 37 = .ok (.dup, 1) := by decide +kernel
theorem dX6_doNextStop_38 : decode cX6_doNextStop 38 = .ok (.getfield 242, 3) := by decide +kernel
theorem dX6_doNextStop_41 : decode cX6_doNextStop 41 = .ok (.iconst 1, 1) := by decide +kernel
theorem dX6_doNextStop_42 : decode cX6_doNextStop 42 = .ok (.iadd, 1) := by decide +kernel
theorem dX6_doNextStop_43 : decode cX6_doNextStop 43 = .ok (.putfield 242, 3) := by decide +kernel
theorem dX6_doNextStop_46 : decode cX6_doNextStop 46 = .ok (.aload_n 1, 1) := by decide +kernel
theorem dX6_doNextStop_47 : decode cX6_doNextStop 47 = .ok (.dup, 1) := by decide +kernel
theorem dX6_doNextStop_48 : decode cX6_doNextStop 48 = .ok (.getfield 257, 3) := by decide +kernel
theorem dX6_doNextStop_51 : decode cX6_doNextStop 51 = .ok (.aload_n 3, 1) := by decide +kernel
theorem dX6_doNextStop_52 : decode cX6_doNextStop 52 = .ok (.getfield 160, 3) := by decide +kernel
theorem dX6_doNextStop_55 : decode cX6_doNextStop 55 = .ok (.iadd, 1) := by decide +kernel
theorem dX6_doNextStop_56 : decode cX6_doNextStop 56 = .ok (.putfield 257, 3) := by decide +kernel
theorem dX6_doNextStop_59 : decode cX6_doNextStop 59 = .ok (.goto 12, 3) := by decide +kernel
theorem dX6_doNextStop_62 : decode cX6_doNextStop 62 = .ok (.aload_n 3, 1) := by decide +kernel
theorem dX6_doNextStop_63 : decode cX6_doNextStop 63 = .ok (.ifnull 8, 3) := by decide +kernel
theorem dX6_doNextStop_66 : decode cX6_doNextStop 66 = .ok (.aload_n 3, 1) := by decide +kernel
theorem dX6_doNextStop_67 : decode cX6_doNextStop 67 = .ok (.iconst 2, 1) := by decide +kernel
theorem dX6_doNextStop_68 : decode cX6_doNextStop 68 = .ok (.putfield 168, 3) := by decide +kernel
theorem dX6_doNextStop_71 : decode cX6_doNextStop 71 = .ok (.aload_n 1, 1) := by decide +kernel
theorem dX6_doNextStop_72 : decode cX6_doNextStop 72 = .ok (.aload_n 2, 1) := by decide +kernel
theorem dX6_doNextStop_73 : decode cX6_doNextStop 73 = .ok (.iconst 0, 1) := by decide +kernel
theorem dX6_doNextStop_74 : decode cX6_doNextStop 74 = .ok (.invokevirtual 247, 3) := by decide +kernel
theorem dX6_doNextStop_77 : decode cX6_doNextStop 77 = .ok (.putfield 125, 3) := by decide +kernel
theorem dX6_doNextStop_80 : decode cX6_doNextStop 80 = .ok (.aload_n 2, 1) := by decide +kernel
theorem dX6_doNextStop_81 : decode cX6_doNextStop 81 = .ok (.iconst 0, 1) := by decide +kernel
theorem dX6_doNextStop_82 : decode cX6_doNextStop 82 = .ok (.invokevirtual 347, 3) := by decide +kernel
theorem dX6_doNextStop_85 : decode cX6_doNextStop 85 = .ok (.aload_n 2, 1) := by decide +kernel
theorem dX6_doNextStop_86 : decode cX6_doNextStop 86 = .ok (.getfield 110, 3) := by decide +kernel
theorem dX6_doNextStop_89 : decode cX6_doNextStop 89 = .ok (.ifCond .le 31, 3) := by decide +kernel
theorem dX6_doNextStop_92 : decode cX6_doNextStop 92 = .ok (.aload_n 1, 1) := by decide +kernel
theorem dX6_doNextStop_93 : decode cX6_doNextStop 93 = .ok (.aload_n 0, 1) := by decide +kernel
theorem dX6_doNextStop_94 : decode cX6_doNextStop 94 = .ok (.getfield 134, 3) := by decide +kernel
theorem dX6_doNextStop_97 : decode cX6_doNextStop 97 = .ok (.aload_n 0, 1) := by decide +kernel
theorem dX6_doNextStop_98 : decode cX6_doNextStop 98 = .ok (.getfield 10, 3) := by decide +kernel
theorem dX6_doNextStop_101 : decode cX6_doNextStop 101 = .ok (.aload_n 1, 1) := by decide +kernel
theorem dX6_doNextStop_102 : decode cX6_doNextStop 102 = .ok (.getfield 125, 3) := by decide +kernel
theorem dX6_doNextStop_105 : decode cX6_doNextStop 105 = .ok (.aload_n 2, 1) := by decide +kernel
theorem dX6_doNextStop_106 : decode cX6_doNextStop 106 = .ok (.iconst 0, 1) := by decide +kernel
theorem dX6_doNextStop_107 : decode cX6_doNextStop 107 = .ok (.invokevirtual 247, 3) := by decide +kernel
theorem dX6_doNextStop_110 : decode cX6_doNextStop 110 = .ok (.invokevirtual 84, 3) := by decide +kernel
theorem dX6_doNextStop_113 : decode cX6_doNextStop 113 = .ok (.iadd, 1) := by decide +kernel
theorem dX6_doNextStop_114 : decode cX6_doNextStop 114 = .ok (.putfield 137, 3) := by decide +kernel
theorem dX6_doNextStop_117 : decode cX6_doNextStop 117 = .ok (.goto 9, 3) := by decide +kernel
theorem dX6_doNextStop_120 : decode cX6_doNextStop 120 = .ok (.aload_n 0, 1) := by decide +kernel
theorem dX6_doNextStop_121 : decode cX6_doNextStop 121 = .ok (.aload_n 1, 1) := by decide +kernel
theorem dX6_doNextStop_122 : decode cX6_doNextStop 122 = .ok (.iconst 0, 1) := by decide +kernel
theorem dX6_doNextStop_123 : decode cX6_doNextStop 123 = .ok (.invokevirtual 95, 3) := by decide +kernel
theorem dX6_doNextStop_126 : decode cX6_doNextStop 126 = .ok (.return_, 1) := by decide +kernel
set_option maxRecDepth 20000 in
theorem ggX7_init_X7_findWays : GoodIn wsX7_init wsX7_findWays := goodIn_r _ [45, 9, 46, 47, 6, 7, 8, 48, 49, 50, 51, 52, 53, 54, 55, 56, 57, 58, 59, 60, 61, 62, 63, 64, 65, 66, 67, 68, 69, 70, 71, 72, 73, 74, 75, 76, 77, 78, 79, 80, 81, 82, 83, 84, 85, 86, 87, 88, 89] (by decide +kernel) (by decide +kernel)
set_option maxRecDepth 20000 in
theorem gX7_init_X7_findWays : GoodIn wsX7_init (wsV RX7 117 RX7 yX7_findWays wsX7_findWays) := goodIn_app (goodIn_of _ (by decide +kernel)) ggX7_init_X7_findWays
theorem dX7_init_0 : decode cX7_init 0 = .ok (.aload_n 0, 1) := by decide +kernel
theorem dX7_init_1 : decode cX7_init 1 = .ok (.invokespecial 1, 3) := by decide +kernel
theorem dX7_init_4 : decode cX7_init 4 = .ok (.aload_n 0, 1) := by decide +kernel
theorem dX7_init_5 : decode cX7_init 5 = .ok (.sipush 300, 3) := by decide +kernel
theorem dX7_init_8 : decode cX7_init 8 = .ok (.putfield 7, 3) := by decide +kernel
theorem dX7_init_11 : decode cX7_init 11 = .ok (.aload_n 0, 1) := by decide +kernel
theorem dX7_init_12 : decode cX7_init 12 = .ok (.bipush 20, 2) := by decide +kernel
theorem dX7_init_14 : decode cX7_init 14 = .ok (.newarray .int, 2) := by decide +kernel
theorem dX7_init_16 : decode cX7_init 16 = .ok (.putfield 13, 3) := by decide +kernel
theorem dX7_init_19 : decode cX7_init 19 = .ok (.aload_n 0, 1) := by decide +kernel
theorem dX7_init_20 : decode cX7_init 20 = .ok (.bipush 20, 2) := by decide +kernel
theorem dX7_init_22 : decode cX7_init 22 = .ok (.newarray .int, 2) := by decide +kernel
theorem dX7_init_24 : decode cX7_init 24 = .ok (.putfield 17, 3) := by decide +kernel
theorem dX7_init_27 : decode cX7_init 27 = .ok (.aload_n 0, 1) := by decide +kernel
theorem dX7_init_28 : decode cX7_init 28 = .ok (.bipush 20, 2) := by decide +kernel
theorem dX7_init_30 : decode cX7_init 30 = .ok (.newarray .int, 2) := by decide +kernel
theorem dX7_init_32 : decode cX7_init 32 = .ok (.putfield 20, 3) := by decide +kernel
theorem dX7_init_35 : decode cX7_init 35 = .ok (.aload_n 0, 1) := by decide +kernel
theorem dX7_init_36 : decode cX7_init 36 = .ok (.bipush 100, 2) := by decide +kernel
theorem dX7_init_38 : decode cX7_init 38 = .ok (.newarray .int, 2) := by decide +kernel
theorem dX7_init_40 : decode cX7_init 40 = .ok (.putfield 23, 3) := by decide +kernel
theorem dX7_init_43 : decode cX7_init 43 = .ok (.aload_n 0, 1) := by decide +kernel
theorem dX7_init_44 : decode cX7_init 44 = .ok (.bipush 8, 2) := by decide +kernel
theorem dX7_init_46 : decode cX7_init 46 = .ok (.newarray .int, 2) := by decide +kernel
theorem dX7_init_48 : decode cX7_init 48 = .ok (.putfield 26, 3) := by decide +kernel
theorem dX7_init_51 : decode cX7_init 51 = .ok (.aload_n 0, 1) := by decide +kernel
theorem dX7_init_52 : decode cX7_init 52 = .ok (.bipush 8, 2) := by decide +kernel
theorem dX7_init_54 : decode cX7_init 54 = .ok (.newarray .boolean, 2) := by decide +kernel
theorem dX7_init_56 : decode cX7_init 56 = .ok (.putfield 29, 3) := by decide +kernel
theorem dX7_init_59 : decode cX7_init 59 = .ok (.aload_n 0, 1) := by decide +kernel
theorem dX7_init_60 : decode cX7_init 60 = .ok (.bipush 8, 2) := by decide +kernel
theorem dX7_init_62 : decode cX7_init 62 = .ok (.newarray .boolean, 2) := by decide +kernel
theorem dX7_init_64 : decode cX7_init 64 = .ok (.putfield 33, 3) := by decide +kernel
theorem dX7_init_67 : decode cX7_init 67 = .ok (.aload_n 0, 1) := by decide +kernel
theorem dX7_init_68 : decode cX7_init 68 = .ok (.bipush 8, 2) := by decide +kernel
theorem dX7_init_70 : decode cX7_init 70 = .ok (.newarray .int, 2) := by decide +kernel
theorem dX7_init_72 : decode cX7_init 72 = .ok (.putfield 36, 3) := by decide +kernel
theorem dX7_init_75 : decode cX7_init 75 = .ok (.aload_n 0, 1) := by decide +kernel
theorem dX7_init_76 : decode cX7_init 76 = .ok (.bipush 64, 2) := by decide +kernel
theorem dX7_init_78 : decode cX7_init 78 = .ok (.newarray .int, 2) := by decide +kernel
theorem dX7_init_80 : decode cX7_init 80 = .ok (.putfield 39, 3) := by decide +kernel
theorem dX7_init_83 : decode cX7_init 83 = .ok (.aload_n 0, 1) := by decide +kernel
theorem dX7_init_84 : decode cX7_init 84 = .ok (.bipush 64, 2) := by decide +kernel
theorem dX7_init_86 : decode cX7_init 86 = .ok (.newarray .int, 2) := by decide +kernel
theorem dX7_init_88 : decode cX7_init 88 = .ok (.putfield 42, 3) := by decide +kernel
theorem dX7_init_91 : decode cX7_init 91 = .ok (.aload_n 0, 1) := by decide +kernel
theorem dX7_init_92 : decode cX7_init 92 = .ok (.bipush 8, 2) := by decide +kernel
theorem dX7_init_94 : decode cX7_init 94 = .ok (.newarray .int, 2) := by decide +kernel
theorem dX7_init_96 : decode cX7_init 96 = .ok (.putfield 45, 3) := by decide +kernel
theorem dX7_init_99 : decode cX7_init 99 = .ok (.aload_n 0, 1) := by decide +kernel
theorem dX7_init_100 : decode cX7_init 100 = .ok (.bipush 8, 2) := by decide +kernel
theorem dX7_init_102 : decode cX7_init 102 = .ok (.newarray .int, 2) := by decide +kernel
theorem dX7_init_104 : decode cX7_init 104 = .ok (.putfield 48, 3) := by decide +kernel
theorem dX7_init_107 : decode cX7_init 107 = .ok (.aload_n 0, 1) := by decide +kernel
theorem dX7_init_108 : decode cX7_init 108 = .ok (.bipush 8, 2) := by decide +kernel
theorem dX7_init_110 : decode cX7_init 110 = .ok (.newarray .int, 2) := by decide +kernel
theorem dX7_init_112 : decode cX7_init 112 = .ok (.putfield 51, 3) := by decide +kernel
theorem dX7_init_115 : decode cX7_init 115 = .ok (.aload_n 0, 1) := by decide +kernel
theorem dX7_init_116 : decode cX7_init 116 = .ok (.bipush 80, 2) := by decide +kernel
theorem dX7_init_118 : decode cX7_init 118 = .ok (.newarray .int, 2) := by decide +kernel
theorem dX7_init_120 : decode cX7_init 120 = .ok (.putfield 54, 3) := by decide +kernel
theorem dX7_init_123 : decode cX7_init 123 = .ok (.aload_n 0, 1) := by decide +kernel
theorem dX7_init_124 : decode cX7_init 124 = .ok (.bipush 8, 2) := by decide +kernel
theorem dX7_init_126 : decode cX7_init 126 = .ok (.newarray .int, 2) := by decide +kernel
theorem dX7_init_128 : decode cX7_init 128 = .ok (.putfield 57, 3) := by decide +kernel
theorem dX7_init_131 : decode cX7_init 131 = .ok (.aload_n 0, 1) := by decide +kernel
theorem dX7_init_132 : decode cX7_init 132 = .ok (.bipush 8, 2) := by decide +kernel
theorem dX7_init_134 : decode cX7_init 134 = .ok (.newarray .int, 2) := by decide +kernel
theorem dX7_init_136 : decode cX7_init 136 = .ok (.putfield 60, 3) := by decide +kernel
theorem dX7_init_139 : decode cX7_init 139 = .ok (.aload_n 0, 1) := by decide +kernel
theorem dX7_init_140 : decode cX7_init 140 = .ok (.bipush 8, 2) := by decide +kernel
theorem dX7_init_142 : decode cX7_init 142 = .ok (.newarray .int, 2) := by decide +kernel
theorem dX7_init_144 : decode cX7_init 144 = .ok (.putfield 63, 3) := by decide +kernel
theorem dX7_init_147 : decode cX7_init 147 = .ok (.aload_n 0, 1) := by decide +kernel
theorem dX7_init_148 : decode cX7_init 148 = .ok (.bipush 60, 2) := by decide +kernel
theorem dX7_init_150 : decode cX7_init 150 = .ok (.newarray .int, 2) := by decide +kernel
theorem dX7_init_152 : decode cX7_init 152 = .ok (.putfield 66, 3) := by decide +kernel
theorem dX7_init_155 : decode cX7_init 155 = .ok (.aload_n 0, 1) := by decide +kernel
theorem dX7_init_156 : decode cX7_init 156 = .ok (.bipush 60, 2) := by decide +kernel
theorem dX7_init_158 : decode cX7_init 158 = .ok (.newarray .int, 2) := by decide +kernel
theorem dX7_init_160 : decode cX7_init 160 = .ok (.putfield 69, 3) := by decide +kernel
theorem dX7_init_163 : decode cX7_init 163 = .ok (.aload_n 0, 1) := by decide +kernel
theorem dX7_init_164 : decode cX7_init 164 = .ok (.bipush 60, 2) := by decide +kernel
theorem dX7_init_166 : decode cX7_init 166 = .ok (.newarray .int, 2) := by decide +kernel
theorem dX7_init_168 : decode cX7_init 168 = .ok (.putfield 72, 3) := by decide +kernel
theorem dX7_init_171 : decode cX7_init 171 = .ok (.aload_n 0, 1) := by decide +kernel
theorem dX7_init_172 : decode cX7_init 172 = .ok (.bipush 60, 2) := by decide +kernel
theorem dX7_init_174 : decode cX7_init 174 = .ok (.newarray .int, 2) := by decide +kernel
theorem dX7_init_176 : decode cX7_init 176 = .ok (.putfield 75, 3) := by decide +kernel
theorem dX7_init_179 : decode cX7_init 179 = .ok (.aload_n 0, 1) := by decide +kernel
theorem dX7_init_180 : decode cX7_init 180 = .ok (.bipush 60, 2) := by decide +kernel
theorem dX7_init_182 : decode cX7_init 182 = .ok (.newarray .boolean, 2) := by decide +kernel
theorem dX7_init_184 : decode cX7_init 184 = .ok (.putfield 78, 3) := by decide +kernel
theorem dX7_init_187 : decode cX7_init 187 = .ok (.aload_n 0, 1) := by decide +kernel
theorem dX7_init_188 : decode cX7_init 188 = .ok (.bipush 60, 2) := by decide +kernel
theorem dX7_init_190 : decode cX7_init 190 = .ok (.newarray .int, 2) := by decide +kernel
theorem dX7_init_192 : decode cX7_init 192 = .ok (.putfield 81, 3) := by decide +kernel
theorem dX7_init_195 : decode cX7_init 195 = .ok (.aload_n 0, 1) := by decide +kernel
theorem dX7_init_196 : decode cX7_init 196 = .ok (.bipush 60, 2) := by decide +kernel
theorem dX7_init_198 : decode cX7_init 198 = .ok (.newarray .int, 2) := by decide +kernel
theorem dX7_init_200 : decode cX7_init 200 = .ok (.putfield 84, 3) := by decide +kernel
theorem dX7_init_203 : decode cX7_init 203 = .ok (.aload_n 0, 1) := by decide +kernel
theorem dX7_init_204 : decode cX7_init 204 = .ok (.bipush 60, 2) := by decide +kernel
theorem dX7_init_206 : decode cX7_init 206 = .ok (.newarray .int, 2) := by decide +kernel
theorem dX7_init_208 : decode cX7_init 208 = .ok (.putfield 87, 3) := by decide +kernel
theorem dX7_init_211 : decode cX7_init 211 = .ok (.aload_n 0, 1) := by decide +kernel
theorem dX7_init_212 : decode cX7_init 212 = .ok (.bipush 60, 2) := by decide +kernel
theorem dX7_init_214 : decode cX7_init 214 = .ok (.newarray .int, 2) := by decide +kernel
theorem dX7_init_216 : decode cX7_init 216 = .ok (.putfield 90, 3) := by decide +kernel
theorem dX7_init_219 : decode cX7_init 219 = .ok (.aload_n 0, 1) := by decide +kernel
theorem dX7_init_220 : decode cX7_init 220 = .ok (.bipush 60, 2) := by decide +kernel
theorem dX7_init_222 : decode cX7_init 222 = .ok (.newarray .int, 2) := by decide +kernel
theorem dX7_init_224 : decode cX7_init 224 = .ok (.putfield 93, 3) := by decide +kernel
theorem dX7_init_227 : decode cX7_init 227 = .ok (.aload_n 0, 1) := by decide +kernel
theorem dX7_init_228 : decode cX7_init 228 = .ok (.bipush 60, 2) := by decide +kernel
theorem dX7_init_230 : decode cX7_init 230 = .ok (.newarray .boolean, 2) := by decide +kernel
theorem dX7_init_232 : decode cX7_init 232 = .ok (.putfield 96, 3) := by decide +kernel
theorem dX7_init_235 : decode cX7_init 235 = .ok (.aload_n 0, 1) := by decide +kernel
theorem dX7_init_236 : decode cX7_init 236 = .ok (.iconst 5, 1) := by decide +kernel
theorem dX7_init_237 : decode cX7_init 237 = .ok (.newarray .int, 2) := by decide +kernel
theorem dX7_init_239 : decode cX7_init 239 = .ok (.putfield 99, 3) := by decide +kernel
theorem dX7_init_242 : decode cX7_init 242 = .ok (.aload_n 0, 1) := by decide +kernel
theorem dX7_init_243 : decode cX7_init 243 = .ok (.iconst 5, 1) := by decide +kernel
theorem dX7_init_244 : decode cX7_init 244 = .ok (.newarray .int, 2) := by decide +kernel
theorem dX7_init_246 : decode cX7_init 246 = .ok (.putfield 102, 3) := by decide +kernel
theorem dX7_init_249 : decode cX7_init 249 = .ok (.aload_n 0, 1) := by decide +kernel
theorem dX7_init_250 : decode cX7_init 250 = .ok (.iconst 5, 1) := by decide +kernel
theorem dX7_init_251 : decode cX7_init 251 = .ok (.newarray .int, 2) := by decide +kernel
theorem dX7_init_253 : decode cX7_init 253 = .ok (.putfield 105, 3) := by decide +kernel
theorem dX7_init_256 : decode cX7_init 256 = .ok (.aload_n 0, 1) := by decide +kernel
theorem dX7_init_257 : decode cX7_init 257 = .ok (.bipush 10, 2) := by decide +kernel
theorem dX7_init_259 : decode cX7_init 259 = .ok (.newarray .int, 2) := by decide +kernel
theorem dX7_init_261 : decode cX7_init 261 = .ok (.putfield 108, 3) := by decide +kernel
theorem dX7_init_264 : decode cX7_init 264 = .ok (.aload_n 0, 1) := by decide +kernel
theorem dX7_init_265 : decode cX7_init 265 = .ok (.bipush 10, 2) := by decide +kernel
theorem dX7_init_267 : decode cX7_init 267 = .ok (.newarray .int, 2) := by decide +kernel
theorem dX7_init_269 : decode cX7_init 269 = .ok (.putfield 111, 3) := by decide +kernel
theorem dX7_init_272 : decode cX7_init 272 = .ok (.aload_n 0, 1) := by decide +kernel
theorem dX7_init_273 : decode cX7_init 273 = .ok (.bipush 10, 2) := by decide +kernel
theorem dX7_init_275 : decode cX7_init 275 = .ok (.newarray .int, 2) := by decide +kernel
theorem dX7_init_277 : decode cX7_init 277 = .ok (.putfield 114, 3) := by decide +kernel
theorem dX7_init_280 : decode cX7_init 280 = .ok (.aload_n 0, 1) := by decide +kernel
theorem dX7_init_281 : decode cX7_init 281 = .ok (.invokevirtual 117, 3) := by decide +kernel
theorem dX7_init_284 : decode cX7_init 284 = .ok (.return_, 1) := by decide +kernel
theorem dX7_thrown_0 : decode cX7_thrown 0 = .ok (.aload_n 0, 1) := by decide +kernel
theorem dX7_thrown_1 : decode cX7_thrown 1 = .ok (.getfield 120, 3) := by decide +kernel
theorem dX7_thrown_4 : decode cX7_thrown 4 = .ok (.ireturn, 1) := by decide +kernel
theorem dX7_in_0 : decode cX7_in 0 = .ok (.iload_n 0, 1) := by decide +kernel
theorem dX7_in_1 : decode cX7_in 1 = .ok (.iload_n 1, 1) := by decide +kernel
theorem dX7_in_2 : decode cX7_in 2 = .ok (.if_icmp .lt 12, 3) := by decide +kernel
theorem dX7_in_5 : decode cX7_in 5 = .ok (.iload_n 0, 1) := by decide +kernel
theorem dX7_in_6 : decode cX7_in 6 = .ok (.iload_n 2, 1) := by decide +kernel
theorem dX7_in_7 : decode cX7_in 7 = .ok (.if_icmp .gt 7, 3) := by decide +kernel
theorem dX7_in_10 : decode cX7_in 10 = .ok (.iconst 1, 1) := by decide +kernel
theorem dX7_in_11 : decode cX7_in 11 = .ok (.goto 4, 3) := by decide +kernel
theorem dX7_in_14 : decode cX7_in 14 = .ok (.iconst 0, 1) := by decide +kernel
theorem dX7_in_15 : decode cX7_in 15 = .ok (.ireturn, 1) := by decide +kernel
theorem dX7_refused_0 : decode cX7_refused 0 = .ok (.aload_n 0, 1) := by decide +kernel
theorem dX7_refused_1 : decode cX7_refused 1 = .ok (.iload_n 1, 1) := by decide +kernel
theorem dX7_refused_2 : decode cX7_refused 2 = .ok (.putfield 120, 3) := by decide +kernel
theorem dX7_refused_5 : decode cX7_refused 5 = .ok (.iload_n 1, 1) := by decide +kernel
theorem dX7_refused_6 : decode cX7_refused 6 = .ok (.ifCond .eq 7, 3) := by decide +kernel
theorem dX7_refused_9 : decode cX7_refused 9 = .ok (.iconst 1, 1) := by decide +kernel
theorem dX7_refused_10 : decode cX7_refused 10 = .ok (.goto 4, 3) := by decide +kernel
theorem dX7_refused_13 : decode cX7_refused 13 = .ok (.iconst 0, 1) := by decide +kernel
theorem dX7_refused_14 : decode cX7_refused 14 = .ok (.ireturn, 1) := by decide +kernel
set_option maxRecDepth 20000 in
theorem ggX7_isPlace_X7_in : GoodIn wsX7_isPlace wsX7_in := goodIn_r _ [4] (by decide +kernel) (by decide +kernel)
set_option maxRecDepth 20000 in
theorem gX7_isPlace_X7_in : GoodIn wsX7_isPlace (va_wsS RX7 123 yX7_in wsX7_in) := goodIn_app (goodIn_of _ (by decide +kernel)) ggX7_isPlace_X7_in
theorem dX7_isPlace_0 : decode cX7_isPlace 0 = .ok (.iload_n 0, 1) := by decide +kernel
theorem dX7_isPlace_1 : decode cX7_isPlace 1 = .ok (.iconst 0, 1) := by decide +kernel
theorem dX7_isPlace_2 : decode cX7_isPlace 2 = .ok (.bipush 9, 2) := by decide +kernel
theorem dX7_isPlace_4 : decode cX7_isPlace 4 = .ok (.invokestatic 123, 3) := by decide +kernel
theorem dX7_isPlace_7 : decode cX7_isPlace 7 = .ok (.ireturn, 1) := by decide +kernel
set_option maxRecDepth 20000 in
theorem ggX7_isDriver_X7_in : GoodIn wsX7_isDriver wsX7_in := goodIn_r _ [5] (by decide +kernel) (by decide +kernel)
set_option maxRecDepth 20000 in
theorem gX7_isDriver_X7_in : GoodIn wsX7_isDriver (va_wsS RX7 123 yX7_in wsX7_in) := goodIn_app (goodIn_of _ (by decide +kernel)) ggX7_isDriver_X7_in
theorem dX7_isDriver_0 : decode cX7_isDriver 0 = .ok (.iload_n 1, 1) := by decide +kernel
theorem dX7_isDriver_1 : decode cX7_isDriver 1 = .ok (.iconst 0, 1) := by decide +kernel
theorem dX7_isDriver_2 : decode cX7_isDriver 2 = .ok (.aload_n 0, 1) := by decide +kernel
theorem dX7_isDriver_3 : decode cX7_isDriver 3 = .ok (.getfield 127, 3) := by decide +kernel
theorem dX7_isDriver_6 : decode cX7_isDriver 6 = .ok (.iconst 1, 1) := by decide +kernel
theorem dX7_isDriver_7 : decode cX7_isDriver 7 = .ok (.isub, 1) := by decide +kernel
theorem dX7_isDriver_8 : decode cX7_isDriver 8 = .ok (.invokestatic 123, 3) := by decide +kernel
theorem dX7_isDriver_11 : decode cX7_isDriver 11 = .ok (.ireturn, 1) := by decide +kernel
set_option maxRecDepth 20000 in
theorem ggX7_isRequest_X7_in : GoodIn wsX7_isRequest wsX7_in := goodIn_r _ [5] (by decide +kernel) (by decide +kernel)
set_option maxRecDepth 20000 in
theorem gX7_isRequest_X7_in : GoodIn wsX7_isRequest (va_wsS RX7 123 yX7_in wsX7_in) := goodIn_app (goodIn_of _ (by decide +kernel)) ggX7_isRequest_X7_in
theorem dX7_isRequest_0 : decode cX7_isRequest 0 = .ok (.iload_n 1, 1) := by decide +kernel
theorem dX7_isRequest_1 : decode cX7_isRequest 1 = .ok (.iconst 0, 1) := by decide +kernel
theorem dX7_isRequest_2 : decode cX7_isRequest 2 = .ok (.aload_n 0, 1) := by decide +kernel
theorem dX7_isRequest_3 : decode cX7_isRequest 3 = .ok (.getfield 130, 3) := by decide +kernel
theorem dX7_isRequest_6 : decode cX7_isRequest 6 = .ok (.iconst 1, 1) := by decide +kernel
theorem dX7_isRequest_7 : decode cX7_isRequest 7 = .ok (.isub, 1) := by decide +kernel
theorem dX7_isRequest_8 : decode cX7_isRequest 8 = .ok (.invokestatic 123, 3) := by decide +kernel
theorem dX7_isRequest_11 : decode cX7_isRequest 11 = .ok (.ireturn, 1) := by decide +kernel
theorem dX7_findWays_0 : decode cX7_findWays 0 = .ok (.iconst 0, 1) := by decide +kernel
theorem dX7_findWays_1 : decode cX7_findWays 1 = .ok (.istore_n 1, 1) := by decide +kernel
theorem dX7_findWays_2 : decode cX7_findWays 2 = .ok (.iload_n 1, 1) := by decide +kernel
theorem dX7_findWays_3 : decode cX7_findWays 3 = .ok (.bipush 100, 2) := by decide +kernel
theorem dX7_findWays_5 : decode cX7_findWays 5 = .ok (.if_icmp .ge 32, 3) := by decide +kernel
theorem dX7_findWays_8 : decode cX7_findWays 8 = .ok (.aload_n 0, 1) := by decide +kernel
theorem dX7_findWays_9 : decode cX7_findWays 9 = .ok (.getfield 23, 3) := by decide +kernel
theorem dX7_findWays_12 : decode cX7_findWays 12 = .ok (.iload_n 1, 1) := by decide +kernel
theorem dX7_findWays_13 : decode cX7_findWays 13 = .ok (.iload_n 1, 1) := by decide +kernel
theorem dX7_findWays_14 : decode cX7_findWays 14 = .ok (.bipush 10, 2) := by decide +kernel
theorem dX7_findWays_16 : decode cX7_findWays 16 = .ok (.idiv, 1) := by decide +kernel
theorem dX7_findWays_17 : decode cX7_findWays 17 = .ok (.iload_n 1, 1) := by decide +kernel
theorem dX7_findWays_18 : decode cX7_findWays 18 = .ok (.bipush 10, 2) := by decide +kernel
theorem dX7_findWays_20 : decode cX7_findWays 20 = .ok (.irem, 1) := by decide +kernel
theorem dX7_findWays_21 : decode cX7_findWays 21 = .ok (.if_icmp .ne 7, 3) := by decide +kernel
theorem dX7_findWays_24 : decode cX7_findWays 24 = .ok (.iconst 0, 1) := by decide +kernel
theorem dX7_findWays_25 : decode cX7_findWays 25 = .ok (.goto 5, 3) := by decide +kernel
theorem dX7_findWays_28 : decode cX7_findWays 28 = .ok (.ldc 133, 2) := by decide +kernel
theorem dX7_findWays_30 : decode cX7_findWays 30 = .ok (.iastore, 1) := by decide +kernel
theorem dX7_findWays_31 : decode cX7_findWays 31 = .ok (.iinc 1 1, 3) := by decide +kernel
theorem dX7_findWays_34 : decode cX7_findWays 34 = .ok (.goto (-32), 3) := by decide +kernel
theorem dX7_findWays_37 : decode cX7_findWays 37 = .ok (.iconst 0, 1) := by decide +kernel
theorem dX7_findWays_38 : decode cX7_findWays 38 = .ok (.istore_n 1, 1) := by decide +kernel
theorem dX7_findWays_39 : decode cX7_findWays 39 = .ok (.iload_n 1, 1) := by decide +kernel
theorem dX7_findWays_40 : decode cX7_findWays 40 = .ok (.aload_n 0, 1) := by decide +kernel
theorem dX7_findWays_41 : decode cX7_findWays 41 = .ok (.getfield 134, 3) := by decide +kernel
theorem dX7_findWays_44 : decode cX7_findWays 44 = .ok (.if_icmp .ge 91, 3) := by decide +kernel
theorem dX7_findWays_47 : decode cX7_findWays 47 = .ok (.bipush 10, 2) := by decide +kernel
theorem dX7_findWays_49 : decode cX7_findWays 49 = .ok (.aload_n 0, 1) := by decide +kernel
theorem dX7_findWays_50 : decode cX7_findWays 50 = .ok (.getfield 13, 3) := by decide +kernel
theorem dX7_findWays_53 : decode cX7_findWays 53 = .ok (.iload_n 1, 1) := by decide +kernel
theorem dX7_findWays_54 : decode cX7_findWays 54 = .ok (.iaload, 1) := by decide +kernel
theorem dX7_findWays_55 : decode cX7_findWays 55 = .ok (.imul, 1) := by decide +kernel
theorem dX7_findWays_56 : decode cX7_findWays 56 = .ok (.aload_n 0, 1) := by decide +kernel
theorem dX7_findWays_57 : decode cX7_findWays 57 = .ok (.getfield 17, 3) := by decide +kernel
theorem dX7_findWays_60 : decode cX7_findWays 60 = .ok (.iload_n 1, 1) := by decide +kernel
theorem dX7_findWays_61 : decode cX7_findWays 61 = .ok (.iaload, 1) := by decide +kernel
theorem dX7_findWays_62 : decode cX7_findWays 62 = .ok (.iadd, 1) := by decide +kernel
theorem dX7_findWays_63 : decode cX7_findWays 63 = .ok (.istore_n 2, 1) := by decide +kernel
theorem dX7_findWays_64 : decode cX7_findWays 64 = .ok (.bipush 10, 2) := by decide +kernel
theorem dX7_findWays_66 : decode cX7_findWays 66 = .ok (.aload_n 0, 1) := by decide +kernel
theorem dX7_findWays_67 : decode cX7_findWays 67 = .ok (.getfield 17, 3) := by decide +kernel
theorem dX7_findWays_70 : decode cX7_findWays 70 = .ok (.iload_n 1, 1) := by decide +kernel
theorem dX7_findWays_71 : decode cX7_findWays 71 = .ok (.iaload, 1) := by decide +kernel
theorem dX7_findWays_72 : decode cX7_findWays 72 = .ok (.imul, 1) := by decide +kernel
theorem dX7_findWays_73 : decode cX7_findWays 73 = .ok (.aload_n 0, 1) := by decide +kernel
theorem dX7_findWays_74 : decode cX7_findWays 74 = .ok (.getfield 13, 3) := by decide +kernel
theorem dX7_findWays_77 : decode cX7_findWays 77 = .ok (.iload_n 1, 1) := by decide +kernel
theorem dX7_findWays_78 : decode cX7_findWays 78 = .ok (.iaload, 1) := by decide +kernel
theorem dX7_findWays_79 : decode cX7_findWays 79 = .ok (.iadd, 1) := by decide +kernel
theorem dX7_findWays_80 : decode cX7_findWays 80 = .ok (.istore_n 3, 1) := by decide +kernel
theorem dX7_findWays_81 : decode cX7_findWays 81 = .ok (.aload_n 0, 1) := by decide +kernel
theorem dX7_findWays_82 : decode cX7_findWays 82 = .ok (.getfield 23, 3) := by decide +kernel
theorem dX7_findWays_85 : decode cX7_findWays 85 = .ok (.iload_n 2, 1) := by decide +kernel
theorem dX7_findWays_86 : decode cX7_findWays 86 = .ok (.aload_n 0, 1) := by decide +kernel
theorem dX7_findWays_87 : decode cX7_findWays 87 = .ok (.getfield 20, 3) := by decide +kernel
theorem dX7_findWays_90 : decode cX7_findWays 90 = .ok (.iload_n 1, 1) := by decide +kernel
theorem dX7_findWays_91 : decode cX7_findWays 91 = .ok (.iaload, 1) := by decide +kernel
theorem dX7_findWays_92 : decode cX7_findWays 92 = .ok (.aload_n 0, 1) := by decide +kernel
theorem dX7_findWays_93 : decode cX7_findWays 93 = .ok (.getfield 23, 3) := by decide +kernel
theorem dX7_findWays_96 : decode cX7_findWays 96 = .ok (.iload_n 2, 1) := by decide +kernel
theorem dX7_findWays_97 : decode cX7_findWays 97 = .ok (.iaload, 1) := by decide +kernel
theorem dX7_findWays_98 : decode cX7_findWays 98 = .ok (.if_icmp .ge 12, 3) := by decide +kernel
theorem dX7_findWays_101 : decode cX7_findWays 101 = .ok (.aload_n 0, 1) := by decide +kernel
theorem dX7_findWays_102 : decode cX7_findWays 102 = .ok (.getfield 20, 3) := by decide +kernel
theorem dX7_findWays_105 : decode cX7_findWays 105 = .ok (.iload_n 1, 1) := by decide +kernel
theorem dX7_findWays_106 : decode cX7_findWays 106 = .ok (.iaload, 1) := by decide +kernel
theorem dX7_findWays_107 : decode cX7_findWays 107 = .ok (.goto 9, 3) := by decide +kernel
theorem dX7_findWays_110 : decode cX7_findWays 110 = .ok (.aload_n 0, 1) := by decide +kernel
theorem dX7_findWays_111 : decode cX7_findWays 111 = .ok (.getfield 23, 3) := by decide +kernel
theorem dX7_findWays_114 : decode cX7_findWays 114 = .ok (.iload_n 2, 1) := by decide +kernel
theorem dX7_findWays_115 : decode cX7_findWays 115 = .ok (.iaload, 1) := by decide +kernel
theorem dX7_findWays_116 : decode cX7_findWays 116 = .ok (.iastore, 1) := by decide +kernel
theorem dX7_findWays_117 : decode cX7_findWays 117 = .ok (.aload_n 0, 1) := by decide +kernel
theorem dX7_findWays_118 : decode cX7_findWays 118 = .ok (.getfield 23, 3) := by decide +kernel
theorem dX7_findWays_121 : decode cX7_findWays 121 = .ok (.iload_n 3, 1) := by decide +kernel
theorem dX7_findWays_122 : decode cX7_findWays 122 = .ok (.aload_n 0, 1) := by decide +kernel
theorem dX7_findWays_123 : decode cX7_findWays 123 = .ok (.getfield 23, 3) := by decide +kernel
theorem dX7_findWays_126 : decode cX7_findWays 126 = .ok (.iload_n 2, 1) := by decide +kernel
theorem dX7_findWays_127 : decode cX7_findWays 127 = .ok (.iaload, 1) := by decide +kernel
theorem dX7_findWays_128 : decode cX7_findWays 128 = .ok (.iastore, 1) := by decide +kernel
theorem dX7_findWays_129 : decode cX7_findWays 129 = .ok (.iinc 1 1, 3) := by decide +kernel
theorem dX7_findWays_132 : decode cX7_findWays 132 = .ok (.goto (-93), 3) := by decide +kernel
theorem dX7_findWays_135 : decode cX7_findWays 135 = .ok (.iconst 0, 1) := by decide +kernel
theorem dX7_findWays_136 : decode cX7_findWays 136 = .ok (.istore_n 1, 1) := by decide +kernel
theorem dX7_findWays_137 : decode cX7_findWays 137 = .ok (.iload_n 1, 1) := by decide +kernel
theorem dX7_findWays_138 : decode cX7_findWays 138 = .ok (.bipush 10, 2) := by decide +kernel
theorem dX7_findWays_140 : decode cX7_findWays 140 = .ok (.if_icmp .ge 79, 3) := by decide +kernel
theorem dX7_findWays_143 : decode cX7_findWays 143 = .ok (.iconst 0, 1) := by decide +kernel
theorem dX7_findWays_144 : decode cX7_findWays 144 = .ok (.istore_n 2, 1) := by decide +kernel
theorem dX7_findWays_145 : decode cX7_findWays 145 = .ok (.iload_n 2, 1) := by decide +kernel
theorem dX7_findWays_146 : decode cX7_findWays 146 = .ok (.bipush 100, 2) := by decide +kernel
theorem dX7_findWays_148 : decode cX7_findWays 148 = .ok (.if_icmp .ge 65, 3) := by decide +kernel
theorem dX7_findWays_151 : decode cX7_findWays 151 = .ok (.aload_n 0, 1) := by decide +kernel
theorem dX7_findWays_152 : decode cX7_findWays 152 = .ok (.getfield 23, 3) := by decide +kernel
theorem dX7_findWays_155 : decode cX7_findWays 155 = .ok (.iload_n 2, 1) := by decide +kernel
theorem dX7_findWays_156 : decode cX7_findWays 156 = .ok (.bipush 10, 2) := by decide +kernel
theorem dX7_findWays_158 : decode cX7_findWays 158 = .ok (.idiv, 1) := by decide +kernel
theorem dX7_findWays_159 : decode cX7_findWays 159 = .ok (.bipush 10, 2) := by decide +kernel
theorem dX7_findWays_161 : decode cX7_findWays 161 = .ok (.imul, 1) := by decide +kernel
theorem dX7_findWays_162 : decode cX7_findWays 162 = .ok (.iload_n 1, 1) := by decide +kernel
theorem dX7_findWays_163 : decode cX7_findWays 163 = .ok (.iadd, 1) := by decide +kernel
theorem dX7_findWays_164 : decode cX7_findWays 164 = .ok (.iaload, 1) := by decide +kernel
theorem dX7_findWays_165 : decode cX7_findWays 165 = .ok (.aload_n 0, 1) := by decide +kernel
theorem dX7_findWays_166 : decode cX7_findWays 166 = .ok (.getfield 23, 3) := by decide +kernel
theorem dX7_findWays_169 : decode cX7_findWays 169 = .ok (.bipush 10, 2) := by decide +kernel
theorem dX7_findWays_171 : decode cX7_findWays 171 = .ok (.iload_n 1, 1) := by decide +kernel
theorem dX7_findWays_172 : decode cX7_findWays 172 = .ok (.imul, 1) := by decide +kernel
theorem dX7_findWays_173 : decode cX7_findWays 173 = .ok (.iload_n 2, 1) := by decide +kernel
theorem dX7_findWays_174 : decode cX7_findWays 174 = .ok (.bipush 10, 2) := by decide +kernel
theorem dX7_findWays_176 : decode cX7_findWays 176 = .ok (.irem, 1) := by decide +kernel
theorem dX7_findWays_177 : decode cX7_findWays 177 = .ok (.iadd, 1) := by decide +kernel
theorem dX7_findWays_178 : decode cX7_findWays 178 = .ok (.iaload, 1) := by decide +kernel
theorem dX7_findWays_179 : decode cX7_findWays 179 = .ok (.iadd, 1) := by decide +kernel
theorem dX7_findWays_180 : decode cX7_findWays 180 = .ok (.istore_n 3, 1) := by decide +kernel
theorem dX7_findWays_181 : decode cX7_findWays 181 = .ok (.aload_n 0, 1) := by decide +kernel
theorem dX7_findWays_182 : decode cX7_findWays 182 = .ok (.getfield 23, 3) := by decide +kernel
theorem dX7_findWays_185 : decode cX7_findWays 185 = .ok (.iload_n 2, 1) := by decide +kernel
theorem dX7_findWays_186 : decode cX7_findWays 186 = .ok (.iload_n 3, 1) := by decide +kernel
theorem dX7_findWays_187 : decode cX7_findWays 187 = .ok (.aload_n 0, 1) := by decide +kernel
theorem dX7_findWays_188 : decode cX7_findWays 188 = .ok (.getfield 23, 3) := by decide +kernel
theorem dX7_findWays_191 : decode cX7_findWays 191 = .ok (.iload_n 2, 1) := by decide +kernel
theorem dX7_findWays_192 : decode cX7_findWays 192 = .ok (.iaload, 1) := by decide +kernel
theorem dX7_findWays_193 : decode cX7_findWays 193 = .ok (.if_icmp .ge 7, 3) := by decide +kernel
theorem dX7_findWays_196 : decode cX7_findWays 196 = .ok (.iload_n 3, 1) := by decide +kernel
theorem dX7_findWays_197 : decode cX7_findWays 197 = .ok (.goto 9, 3) := by decide +kernel
theorem dX7_findWays_200 : decode cX7_findWays 200 = .ok (.aload_n 0, 1) := by decide +kernel
theorem dX7_findWays_201 : decode cX7_findWays 201 = .ok (.getfield 23, 3) := by decide +kernel
theorem dX7_findWays_204 : decode cX7_findWays 204 = .ok (.iload_n 2, 1) := by decide +kernel
theorem dX7_findWays_205 : decode cX7_findWays 205 = .ok (.iaload, 1) := by decide +kernel
theorem dX7_findWays_206 : decode cX7_findWays 206 = .ok (.iastore, 1) := by decide +kernel
theorem dX7_findWays_207 : decode cX7_findWays 207 = .ok (.iinc 2 1, 3) := by decide +kernel
theorem dX7_findWays_210 : decode cX7_findWays 210 = .ok (.goto (-65), 3) := by decide +kernel
theorem dX7_findWays_213 : decode cX7_findWays 213 = .ok (.iinc 1 1, 3) := by decide +kernel
theorem dX7_findWays_216 : decode cX7_findWays 216 = .ok (.goto (-79), 3) := by decide +kernel
theorem dX7_findWays_219 : decode cX7_findWays 219 = .ok (.return_, 1) := by decide +kernel
theorem dX7_wayOf_0 : decode cX7_wayOf 0 = .ok (.aload_n 0, 1) := by decide +kernel
theorem dX7_wayOf_1 : decode cX7_wayOf 1 = .ok (.getfield 23, 3) := by decide +kernel
theorem dX7_wayOf_4 : decode cX7_wayOf 4 = .ok (.bipush 10, 2) := by decide +kernel
theorem dX7_wayOf_6 : decode cX7_wayOf 6 = .ok (.iload_n 1, 1) := by decide +kernel
theorem dX7_wayOf_7 : decode cX7_wayOf 7 = .ok (.imul, 1) := by decide +kernel
theorem dX7_wayOf_8 : decode cX7_wayOf 8 = .ok (.iload_n 2, 1) := by decide +kernel
theorem dX7_wayOf_9 : decode cX7_wayOf 9 = .ok (.iadd, 1) := by decide +kernel
theorem dX7_wayOf_10 : decode cX7_wayOf 10 = .ok (.iaload, 1) := by decide +kernel
theorem dX7_wayOf_11 : decode cX7_wayOf 11 = .ok (.ireturn, 1) := by decide +kernel
set_option maxRecDepth 20000 in
theorem ggX7_street_X7_isPlace : GoodIn wsX7_street wsX7_isPlace := goodIn_r _ [8, 9, 10, 7, 11] (by decide +kernel) (by decide +kernel)
set_option maxRecDepth 20000 in
theorem gX7_street_X7_isPlace : GoodIn wsX7_street (va_wsS RX7 137 yX7_isPlace wsX7_isPlace) := goodIn_app (goodIn_of _ (by decide +kernel)) ggX7_street_X7_isPlace
set_option maxRecDepth 20000 in
theorem ggX7_street_X7_in : GoodIn wsX7_street wsX7_in := goodIn_r _ [11] (by decide +kernel) (by decide +kernel)
set_option maxRecDepth 20000 in
theorem gX7_street_X7_in : GoodIn wsX7_street (va_wsS RX7 123 yX7_in wsX7_in) := goodIn_app (goodIn_of _ (by decide +kernel)) ggX7_street_X7_in
set_option maxRecDepth 20000 in
theorem ggX7_street_X7_refused : GoodIn wsX7_street wsX7_refused := goodIn_r _ [15, 16, 23, 24, 25, 26, 27, 28, 29, 30, 31, 32, 33, 34, 35, 36, 37, 38, 39, 40, 41, 42, 43, 44, 45, 46, 47, 48, 49, 50, 51, 52, 53, 54, 55, 56, 57, 58, 59, 60, 61, 62, 63, 64] (by decide +kernel) (by decide +kernel)
set_option maxRecDepth 20000 in
theorem gX7_street_X7_refused : GoodIn wsX7_street (wsV RX7 141 RX7 yX7_refused wsX7_refused) := goodIn_app (goodIn_of _ (by decide +kernel)) ggX7_street_X7_refused
set_option maxRecDepth 20000 in
theorem ggX7_street_X7_findWays : GoodIn wsX7_street wsX7_findWays := goodIn_r _ [20, 21, 22, 1, 2, 3, 4, 23, 24, 25, 26, 27, 28, 29, 30, 31, 32, 33, 34, 35, 36, 37, 38, 39, 40, 41, 42, 43, 44, 45, 46, 47, 48, 49, 50, 51, 52, 53, 54, 55, 56, 57, 58, 59, 60, 61, 62, 63, 64] (by decide +kernel) (by decide +kernel)
set_option maxRecDepth 20000 in
theorem gX7_street_X7_findWays : GoodIn wsX7_street (wsV RX7 117 RX7 yX7_findWays wsX7_findWays) := goodIn_app (goodIn_of _ (by decide +kernel)) ggX7_street_X7_findWays
theorem dX7_street_0 : decode cX7_street 0 = .ok (.iload_n 1, 1) := by decide +kernel
theorem dX7_street_1 : decode cX7_street 1 = .ok (.invokestatic 137, 3) := by decide +kernel
theorem dX7_street_4 : decode cX7_street 4 = .ok (.ifCond .eq 14, 3) := by decide +kernel
theorem dX7_street_7 : decode cX7_street 7 = .ok (.iload_n 2, 1) := by decide +kernel
theorem dX7_street_8 : decode cX7_street 8 = .ok (.invokestatic 137, 3) := by decide +kernel
theorem dX7_street_11 : decode cX7_street 11 = .ok (.ifCond .eq 7, 3) := by decide +kernel
theorem dX7_street_14 : decode cX7_street 14 = .ok (.iconst 1, 1) := by decide +kernel
theorem dX7_street_15 : decode cX7_street 15 = .ok (.goto 4, 3) := by decide +kernel
theorem dX7_street_18 : decode cX7_street 18 = .ok (.iconst 0, 1) := by decide +kernel
theorem dX7_street_19 : decode cX7_street 19 = .ok (.istore 4, 2) := by decide +kernel
theorem dX7_street_21 : decode cX7_street 21 = .ok (.iload_n 1, 1) := by decide +kernel
theorem dX7_street_22 : decode cX7_street 22 = .ok (.iload_n 2, 1) := by decide +kernel
theorem dX7_street_23 : decode cX7_street 23 = .ok (.if_icmp .eq 17, 3) := by decide +kernel
theorem dX7_street_26 : decode cX7_street 26 = .ok (.iload_n 3, 1) := by decide +kernel
theorem dX7_street_27 : decode cX7_street 27 = .ok (.iconst 1, 1) := by decide +kernel
theorem dX7_street_28 : decode cX7_street 28 = .ok (.bipush 20, 2) := by decide +kernel
theorem dX7_street_30 : decode cX7_street 30 = .ok (.invokestatic 123, 3) := by decide +kernel
theorem dX7_street_33 : decode cX7_street 33 = .ok (.ifCond .eq 7, 3) := by decide +kernel
theorem dX7_street_36 : decode cX7_street 36 = .ok (.iconst 1, 1) := by decide +kernel
theorem dX7_street_37 : decode cX7_street 37 = .ok (.goto 4, 3) := by decide +kernel
theorem dX7_street_40 : decode cX7_street 40 = .ok (.iconst 0, 1) := by decide +kernel
theorem dX7_street_41 : decode cX7_street 41 = .ok (.istore 5, 2) := by decide +kernel
theorem dX7_street_43 : decode cX7_street 43 = .ok (.aload_n 0, 1) := by decide +kernel
theorem dX7_street_44 : decode cX7_street 44 = .ok (.iload 4, 2) := by decide +kernel
theorem dX7_street_46 : decode cX7_street 46 = .ok (.ifCond .ne 7, 3) := by decide +kernel
theorem dX7_street_49 : decode cX7_street 49 = .ok (.iconst 1, 1) := by decide +kernel
theorem dX7_street_50 : decode cX7_street 50 = .ok (.goto 26, 3) := by decide +kernel
theorem dX7_street_53 : decode cX7_street 53 = .ok (.iload 5, 2) := by decide +kernel
theorem dX7_street_55 : decode cX7_street 55 = .ok (.ifCond .ne 7, 3) := by decide +kernel
theorem dX7_street_58 : decode cX7_street 58 = .ok (.iconst 2, 1) := by decide +kernel
theorem dX7_street_59 : decode cX7_street 59 = .ok (.goto 17, 3) := by decide +kernel
theorem dX7_street_62 : decode cX7_street 62 = .ok (.aload_n 0, 1) := by decide +kernel
theorem dX7_street_63 : decode cX7_street 63 = .ok (.getfield 134, 3) := by decide +kernel
theorem dX7_street_66 : decode cX7_street 66 = .ok (.bipush 20, 2) := by decide +kernel
theorem dX7_street_68 : decode cX7_street 68 = .ok (.if_icmp .ne 7, 3) := by decide +kernel
theorem dX7_street_71 : decode cX7_street 71 = .ok (.iconst 3, 1) := by decide +kernel
theorem dX7_street_72 : decode cX7_street 72 = .ok (.goto 4, 3) := by decide +kernel
theorem dX7_street_75 : decode cX7_street 75 = .ok (.iconst 0, 1) := by decide +kernel
theorem dX7_street_76 : decode cX7_street 76 = .ok (.invokevirtual 141, 3) := by decide +kernel
theorem dX7_street_79 : decode cX7_street 79 = .ok (.ifCond .eq 5, 3) := by decide +kernel
theorem dX7_street_82 : decode cX7_street 82 = .ok (.iconst 0, 1) := by decide +kernel
theorem dX7_street_83 : decode cX7_street 83 = .ok (.ireturn, 1) := by decide +kernel
theorem dX7_street_84 : decode cX7_street 84 = .ok (.aload_n 0, 1) := by decide +kernel
theorem dX7_street_85 : decode cX7_street 85 = .ok (.getfield 13, 3) := by decide +kernel
theorem dX7_street_88 : decode cX7_street 88 = .ok (.aload_n 0, 1) := by decide +kernel
theorem dX7_street_89 : decode cX7_street 89 = .ok (.getfield 134, 3) := by decide +kernel
theorem dX7_street_92 : decode cX7_street 92 = .ok (.iload_n 1, 1) := by decide +kernel
theorem dX7_street_93 : decode cX7_street 93 = .ok (.iastore, 1) := by decide +kernel
theorem dX7_street_94 : decode cX7_street 94 = .ok (.aload_n 0, 1) := by decide +kernel
theorem dX7_street_95 : decode cX7_street 95 = .ok (.getfield 17, 3) := by decide +kernel
theorem dX7_street_98 : decode cX7_street 98 = .ok (.aload_n 0, 1) := by decide +kernel
theorem dX7_street_99 : decode cX7_street 99 = .ok (.getfield 134, 3) := by decide +kernel
theorem dX7_street_102 : decode cX7_street 102 = .ok (.iload_n 2, 1) := by decide +kernel
theorem dX7_street_103 : decode cX7_street 103 = .ok (.iastore, 1) := by decide +kernel
theorem dX7_street_104 : decode cX7_street 104 = .ok (.aload_n 0, 1) := by decide +kernel
theorem dX7_street_105 : decode cX7_street 105 = .ok (.getfield 20, 3) := by decide +kernel
theorem dX7_street_108 : decode cX7_street 108 = .ok (.aload_n 0, 1) := by decide +kernel
theorem dX7_street_109 : decode cX7_street 109 = .ok (.getfield 134, 3) := by decide +kernel
theorem dX7_street_112 : decode cX7_street 112 = .ok (.iload_n 3, 1) := by decide +kernel
theorem dX7_street_113 : decode cX7_street 113 = .ok (.iastore, 1) := by decide +kernel
theorem dX7_street_114 : decode cX7_street 114 = .ok (.aload_n 0, 1) := by decide +kernel
theorem dX7_street_115 : decode cX7_street 115 = .ok (.dup, 1) := by decide +kernel
theorem dX7_street_116 : decode cX7_street 116 = .ok (.getfield 134, 3) := by decide +kernel
theorem dX7_street_119 : decode cX7_street 119 = .ok (.iconst 1, 1) := by decide +kernel
theorem dX7_street_120 : decode cX7_street 120 = .ok (.iadd, 1) := by decide +kernel
theorem dX7_street_121 : decode cX7_street 121 = .ok (.putfield 134, 3) := by decide +kernel
theorem dX7_street_124 : decode cX7_street 124 = .ok (.aload_n 0, 1) := by decide +kernel
theorem dX7_street_125 : decode cX7_street 125 = .ok (.invokevirtual 117, 3) := by decide +kernel
theorem dX7_street_128 : decode cX7_street 128 = .ok (.aload_n 0, 1) := by decide +kernel
theorem dX7_street_129 : decode cX7_street 129 = .ok (.getfield 134, 3) := by decide +kernel
theorem dX7_street_132 : decode cX7_street 132 = .ok (.iconst 1, 1) := by decide +kernel
theorem dX7_street_133 : decode cX7_street 133 = .ok (.isub, 1) := by decide +kernel
theorem dX7_street_134 : decode cX7_street 134 = .ok (.ireturn, 1) := by decide +kernel
set_option maxRecDepth 20000 in
theorem ggX7_slow_X7_in : GoodIn wsX7_slow wsX7_in := goodIn_r _ [6] (by decide +kernel) (by decide +kernel)
set_option maxRecDepth 20000 in
theorem gX7_slow_X7_in : GoodIn wsX7_slow (va_wsS RX7 123 yX7_in wsX7_in) := goodIn_app (goodIn_of _ (by decide +kernel)) ggX7_slow_X7_in
set_option maxRecDepth 20000 in
theorem ggX7_slow_X7_refused : GoodIn wsX7_slow wsX7_refused := goodIn_r _ [10, 11, 20, 21, 22, 23, 24, 25, 26, 27, 28, 29, 30, 31, 32, 33, 34, 35, 36, 37, 38, 39, 40, 41, 42, 43, 44, 45, 46, 47, 48, 49, 50, 51, 52, 53, 54, 55, 56, 57, 58, 59, 60, 61] (by decide +kernel) (by decide +kernel)
set_option maxRecDepth 20000 in
theorem gX7_slow_X7_refused : GoodIn wsX7_slow (wsV RX7 141 RX7 yX7_refused wsX7_refused) := goodIn_app (goodIn_of _ (by decide +kernel)) ggX7_slow_X7_refused
set_option maxRecDepth 20000 in
theorem ggX7_slow_X7_findWays : GoodIn wsX7_slow wsX7_findWays := goodIn_r _ [15, 16, 17, 1, 18, 19, 2, 20, 21, 22, 23, 24, 25, 26, 27, 28, 29, 30, 31, 32, 33, 34, 35, 36, 37, 38, 39, 40, 41, 42, 43, 44, 45, 46, 47, 48, 49, 50, 51, 52, 53, 54, 55, 56, 57, 58, 59, 60, 61] (by decide +kernel) (by decide +kernel)
set_option maxRecDepth 20000 in
theorem gX7_slow_X7_findWays : GoodIn wsX7_slow (wsV RX7 117 RX7 yX7_findWays wsX7_findWays) := goodIn_app (goodIn_of _ (by decide +kernel)) ggX7_slow_X7_findWays
theorem dX7_slow_0 : decode cX7_slow 0 = .ok (.aload_n 0, 1) := by decide +kernel
theorem dX7_slow_1 : decode cX7_slow 1 = .ok (.iload_n 1, 1) := by decide +kernel
theorem dX7_slow_2 : decode cX7_slow 2 = .ok (.iconst 0, 1) := by decide +kernel
theorem dX7_slow_3 : decode cX7_slow 3 = .ok (.aload_n 0, 1) := by decide +kernel
theorem dX7_slow_4 : decode cX7_slow 4 = .ok (.getfield 134, 3) := by decide +kernel
theorem dX7_slow_7 : decode cX7_slow 7 = .ok (.iconst 1, 1) := by decide +kernel
theorem dX7_slow_8 : decode cX7_slow 8 = .ok (.isub, 1) := by decide +kernel
theorem dX7_slow_9 : decode cX7_slow 9 = .ok (.invokestatic 123, 3) := by decide +kernel
theorem dX7_slow_12 : decode cX7_slow 12 = .ok (.ifCond .ne 7, 3) := by decide +kernel
theorem dX7_slow_15 : decode cX7_slow 15 = .ok (.iconst 1, 1) := by decide +kernel
theorem dX7_slow_16 : decode cX7_slow 16 = .ok (.goto 18, 3) := by decide +kernel
theorem dX7_slow_19 : decode cX7_slow 19 = .ok (.iload_n 2, 1) := by decide +kernel
theorem dX7_slow_20 : decode cX7_slow 20 = .ok (.iconst 1, 1) := by decide +kernel
theorem dX7_slow_21 : decode cX7_slow 21 = .ok (.bipush 20, 2) := by decide +kernel
theorem dX7_slow_23 : decode cX7_slow 23 = .ok (.invokestatic 123, 3) := by decide +kernel
theorem dX7_slow_26 : decode cX7_slow 26 = .ok (.ifCond .ne 7, 3) := by decide +kernel
theorem dX7_slow_29 : decode cX7_slow 29 = .ok (.iconst 2, 1) := by decide +kernel
theorem dX7_slow_30 : decode cX7_slow 30 = .ok (.goto 4, 3) := by decide +kernel
theorem dX7_slow_33 : decode cX7_slow 33 = .ok (.iconst 0, 1) := by decide +kernel
theorem dX7_slow_34 : decode cX7_slow 34 = .ok (.invokevirtual 141, 3) := by decide +kernel
theorem dX7_slow_37 : decode cX7_slow 37 = .ok (.ifCond .eq 5, 3) := by decide +kernel
theorem dX7_slow_40 : decode cX7_slow 40 = .ok (.iconst 0, 1) := by decide +kernel
theorem dX7_slow_41 : decode cX7_slow 41 = .ok (.ireturn, 1) := by decide +kernel
theorem dX7_slow_42 : decode cX7_slow 42 = .ok (.aload_n 0, 1) := by decide +kernel
theorem dX7_slow_43 : decode cX7_slow 43 = .ok (.getfield 20, 3) := by decide +kernel
theorem dX7_slow_46 : decode cX7_slow 46 = .ok (.iload_n 1, 1) := by decide +kernel
theorem dX7_slow_47 : decode cX7_slow 47 = .ok (.iaload, 1) := by decide +kernel
theorem dX7_slow_48 : decode cX7_slow 48 = .ok (.istore_n 3, 1) := by decide +kernel
theorem dX7_slow_49 : decode cX7_slow 49 = .ok (.aload_n 0, 1) := by decide +kernel
theorem dX7_slow_50 : decode cX7_slow 50 = .ok (.getfield 20, 3) := by decide +kernel
theorem dX7_slow_53 : decode cX7_slow 53 = .ok (.iload_n 1, 1) := by decide +kernel
theorem dX7_slow_54 : decode cX7_slow 54 = .ok (.iload_n 2, 1) := by decide +kernel
theorem dX7_slow_55 : decode cX7_slow 55 = .ok (.iastore, 1) := by decide +kernel
theorem dX7_slow_56 : decode cX7_slow 56 = .ok (.aload_n 0, 1) := by decide +kernel
theorem dX7_slow_57 : decode cX7_slow 57 = .ok (.invokevirtual 117, 3) := by decide +kernel
theorem dX7_slow_60 : decode cX7_slow 60 = .ok (.iload_n 3, 1) := by decide +kernel
theorem dX7_slow_61 : decode cX7_slow 61 = .ok (.ireturn, 1) := by decide +kernel
set_option maxRecDepth 20000 in
theorem ggX7_way_X7_isPlace : GoodIn wsX7_way wsX7_isPlace := goodIn_r _ [5, 6, 7, 4, 8] (by decide +kernel) (by decide +kernel)
set_option maxRecDepth 20000 in
theorem gX7_way_X7_isPlace : GoodIn wsX7_way (va_wsS RX7 137 yX7_isPlace wsX7_isPlace) := goodIn_app (goodIn_of _ (by decide +kernel)) ggX7_way_X7_isPlace
set_option maxRecDepth 20000 in
theorem ggX7_way_X7_refused : GoodIn wsX7_way wsX7_refused := goodIn_r _ [12, 13, 19, 20, 21, 22, 23, 24, 25, 26, 27, 28, 29, 30, 31, 32, 33, 34, 35, 36, 37, 38, 39, 40, 41, 42, 43, 44, 45, 46, 47, 48, 49, 50, 51, 52, 53, 54, 55, 56, 57, 58, 59, 60] (by decide +kernel) (by decide +kernel)
set_option maxRecDepth 20000 in
theorem gX7_way_X7_refused : GoodIn wsX7_way (wsV RX7 141 RX7 yX7_refused wsX7_refused) := goodIn_app (goodIn_of _ (by decide +kernel)) ggX7_way_X7_refused
set_option maxRecDepth 20000 in
theorem ggX7_way_X7_wayOf : GoodIn wsX7_way wsX7_wayOf := goodIn_r _ [17, 18, 19, 20, 21, 22, 23, 24, 25, 26, 27, 28, 29, 30, 31, 32, 33, 34, 35, 36, 37, 38, 39, 40, 41, 42, 43, 44, 45, 46, 47, 48, 49, 50, 51, 52, 53, 54, 55, 56, 57, 58, 59, 60] (by decide +kernel) (by decide +kernel)
set_option maxRecDepth 20000 in
theorem gX7_way_X7_wayOf : GoodIn wsX7_way (wsV RX7 144 RX7 yX7_wayOf wsX7_wayOf) := goodIn_app (goodIn_of _ (by decide +kernel)) ggX7_way_X7_wayOf
theorem dX7_way_0 : decode cX7_way 0 = .ok (.aload_n 0, 1) := by decide +kernel
theorem dX7_way_1 : decode cX7_way 1 = .ok (.iload_n 1, 1) := by decide +kernel
theorem dX7_way_2 : decode cX7_way 2 = .ok (.invokestatic 137, 3) := by decide +kernel
theorem dX7_way_5 : decode cX7_way 5 = .ok (.ifCond .eq 14, 3) := by decide +kernel
theorem dX7_way_8 : decode cX7_way 8 = .ok (.iload_n 2, 1) := by decide +kernel
theorem dX7_way_9 : decode cX7_way 9 = .ok (.invokestatic 137, 3) := by decide +kernel
theorem dX7_way_12 : decode cX7_way 12 = .ok (.ifCond .eq 7, 3) := by decide +kernel
theorem dX7_way_15 : decode cX7_way 15 = .ok (.iconst 0, 1) := by decide +kernel
theorem dX7_way_16 : decode cX7_way 16 = .ok (.goto 4, 3) := by decide +kernel
theorem dX7_way_19 : decode cX7_way 19 = .ok (.iconst 1, 1) := by decide +kernel
theorem dX7_way_20 : decode cX7_way 20 = .ok (.invokevirtual 141, 3) := by decide +kernel
theorem dX7_way_23 : decode cX7_way 23 = .ok (.ifCond .eq 5, 3) := by decide +kernel
theorem dX7_way_26 : decode cX7_way 26 = .ok (.iconst 0, 1) := by decide +kernel
theorem dX7_way_27 : decode cX7_way 27 = .ok (.ireturn, 1) := by decide +kernel
theorem dX7_way_28 : decode cX7_way 28 = .ok (.aload_n 0, 1) := by decide +kernel
theorem dX7_way_29 : decode cX7_way 29 = .ok (.iload_n 1, 1) := by decide +kernel
theorem dX7_way_30 : decode cX7_way 30 = .ok (.iload_n 2, 1) := by decide +kernel
theorem dX7_way_31 : decode cX7_way 31 = .ok (.invokevirtual 144, 3) := by decide +kernel
theorem dX7_way_34 : decode cX7_way 34 = .ok (.ldc 133, 2) := by decide +kernel
theorem dX7_way_36 : decode cX7_way 36 = .ok (.if_icmp .lt 7, 3) := by decide +kernel
theorem dX7_way_39 : decode cX7_way 39 = .ok (.iconst (-1), 1) := by decide +kernel
theorem dX7_way_40 : decode cX7_way 40 = .ok (.goto 9, 3) := by decide +kernel
theorem dX7_way_43 : decode cX7_way 43 = .ok (.aload_n 0, 1) := by decide +kernel
theorem dX7_way_44 : decode cX7_way 44 = .ok (.iload_n 1, 1) := by decide +kernel
theorem dX7_way_45 : decode cX7_way 45 = .ok (.iload_n 2, 1) := by decide +kernel
theorem dX7_way_46 : decode cX7_way 46 = .ok (.invokevirtual 144, 3) := by decide +kernel
theorem dX7_way_49 : decode cX7_way 49 = .ok (.ireturn, 1) := by decide +kernel
theorem dX7_isFree_0 : decode cX7_isFree 0 = .ok (.aload_n 0, 1) := by decide +kernel
theorem dX7_isFree_1 : decode cX7_isFree 1 = .ok (.getfield 36, 3) := by decide +kernel
theorem dX7_isFree_4 : decode cX7_isFree 4 = .ok (.iload_n 1, 1) := by decide +kernel
theorem dX7_isFree_5 : decode cX7_isFree 5 = .ok (.iaload, 1) := by decide +kernel
theorem dX7_isFree_6 : decode cX7_isFree 6 = .ok (.ifCond .ne 25, 3) := by decide +kernel
theorem dX7_isFree_9 : decode cX7_isFree 9 = .ok (.aload_n 0, 1) := by decide +kernel
theorem dX7_isFree_10 : decode cX7_isFree 10 = .ok (.getfield 29, 3) := by decide +kernel
theorem dX7_isFree_13 : decode cX7_isFree 13 = .ok (.iload_n 1, 1) := by decide +kernel
theorem dX7_isFree_14 : decode cX7_isFree 14 = .ok (.baload, 1) := by decide +kernel
theorem dX7_isFree_15 : decode cX7_isFree 15 = .ok (.ifCond .ne 16, 3) := by decide +kernel
theorem dX7_isFree_18 : decode cX7_isFree 18 = .ok (.aload_n 0, 1) := by decide +kernel
theorem dX7_isFree_19 : decode cX7_isFree 19 = .ok (.getfield 33, 3) := by decide +kernel
theorem dX7_isFree_22 : decode cX7_isFree 22 = .ok (.iload_n 1, 1) := by decide +kernel
theorem dX7_isFree_23 : decode cX7_isFree 23 = .ok (.baload, 1) := by decide +kernel
theorem dX7_isFree_24 : decode cX7_isFree 24 = .ok (.ifCond .ne 7, 3) := by decide +kernel
theorem dX7_isFree_27 : decode cX7_isFree 27 = .ok (.iconst 1, 1) := by decide +kernel
theorem dX7_isFree_28 : decode cX7_isFree 28 = .ok (.goto 4, 3) := by decide +kernel
theorem dX7_isFree_31 : decode cX7_isFree 31 = .ok (.iconst 0, 1) := by decide +kernel
theorem dX7_isFree_32 : decode cX7_isFree 32 = .ok (.ireturn, 1) := by decide +kernel
set_option maxRecDepth 20000 in
theorem ggX7_becomesFree_X7_isFree : GoodIn wsX7_becomesFree wsX7_isFree := goodIn_r _ [7, 8, 9, 10, 11, 12, 13, 14, 15, 16, 17, 18, 19, 20, 21, 22, 23, 24, 25, 26, 27, 28, 29, 30, 31, 32, 33, 34, 35, 36, 37, 38, 39, 40, 41, 42, 43, 44, 45, 46, 47, 48, 49, 50, 51, 52] (by decide +kernel) (by decide +kernel)
set_option maxRecDepth 20000 in
theorem gX7_becomesFree_X7_isFree : GoodIn wsX7_becomesFree (wsV RX7 148 RX7 yX7_isFree wsX7_isFree) := goodIn_app (goodIn_of _ (by decide +kernel)) ggX7_becomesFree_X7_isFree
theorem dX7_becomesFree_0 : decode cX7_becomesFree 0 = .ok (.aload_n 0, 1) := by decide +kernel
theorem dX7_becomesFree_1 : decode cX7_becomesFree 1 = .ok (.iload_n 1, 1) := by decide +kernel
theorem dX7_becomesFree_2 : decode cX7_becomesFree 2 = .ok (.invokevirtual 148, 3) := by decide +kernel
theorem dX7_becomesFree_5 : decode cX7_becomesFree 5 = .ok (.ifCond .eq 23, 3) := by decide +kernel
theorem dX7_becomesFree_8 : decode cX7_becomesFree 8 = .ok (.aload_n 0, 1) := by decide +kernel
theorem dX7_becomesFree_9 : decode cX7_becomesFree 9 = .ok (.dup, 1) := by decide +kernel
theorem dX7_becomesFree_10 : decode cX7_becomesFree 10 = .ok (.getfield 151, 3) := by decide +kernel
theorem dX7_becomesFree_13 : decode cX7_becomesFree 13 = .ok (.iconst 1, 1) := by decide +kernel
theorem dX7_becomesFree_14 : decode cX7_becomesFree 14 = .ok (.iadd, 1) := by decide +kernel
theorem dX7_becomesFree_15 : decode cX7_becomesFree 15 = .ok (.putfield 151, 3) := by decide +kernel
theorem dX7_becomesFree_18 : decode cX7_becomesFree 18 = .ok (.aload_n 0, 1) := by decide +kernel
theorem dX7_becomesFree_19 : decode cX7_becomesFree 19 = .ok (.getfield 48, 3) := by decide +kernel
theorem dX7_becomesFree_22 : decode cX7_becomesFree 22 = .ok (.iload_n 1, 1) := by decide +kernel
theorem dX7_becomesFree_23 : decode cX7_becomesFree 23 = .ok (.aload_n 0, 1) := by decide +kernel
theorem dX7_becomesFree_24 : decode cX7_becomesFree 24 = .ok (.getfield 151, 3) := by decide +kernel
theorem dX7_becomesFree_27 : decode cX7_becomesFree 27 = .ok (.iastore, 1) := by decide +kernel
theorem dX7_becomesFree_28 : decode cX7_becomesFree 28 = .ok (.return_, 1) := by decide +kernel
set_option maxRecDepth 20000 in
theorem ggX7_driver_X7_isPlace : GoodIn wsX7_driver wsX7_isPlace := goodIn_r _ [6, 7, 8, 5, 9] (by decide +kernel) (by decide +kernel)
set_option maxRecDepth 20000 in
theorem gX7_driver_X7_isPlace : GoodIn wsX7_driver (va_wsS RX7 137 yX7_isPlace wsX7_isPlace) := goodIn_app (goodIn_of _ (by decide +kernel)) ggX7_driver_X7_isPlace
set_option maxRecDepth 20000 in
theorem ggX7_driver_X7_refused : GoodIn wsX7_driver wsX7_refused := goodIn_r _ [13, 14, 28, 29, 30, 31, 32, 33, 34, 35, 36, 37, 38, 39, 40, 41, 42, 43, 44, 45, 46, 47, 48, 49, 50, 51, 52, 53, 54, 55, 56, 57, 58, 59, 60, 61, 62, 63, 64, 65, 66, 67, 68, 69] (by decide +kernel) (by decide +kernel)
set_option maxRecDepth 20000 in
theorem gX7_driver_X7_refused : GoodIn wsX7_driver (wsV RX7 141 RX7 yX7_refused wsX7_refused) := goodIn_app (goodIn_of _ (by decide +kernel)) ggX7_driver_X7_refused
set_option maxRecDepth 20000 in
theorem ggX7_driver_X7_becomesFree : GoodIn wsX7_driver wsX7_becomesFree := goodIn_r _ [18, 19, 20, 21, 22, 23, 5, 24, 25, 26, 27, 28, 29, 30, 31, 32, 33, 34, 35, 36, 37, 38, 39, 40, 41, 42, 43, 44, 45, 46, 47, 48, 49, 50, 51, 52, 53, 54, 55, 56, 57, 58, 59, 60, 61, 62, 63, 64, 65, 66, 67, 68, 69] (by decide +kernel) (by decide +kernel)
set_option maxRecDepth 20000 in
theorem gX7_driver_X7_becomesFree : GoodIn wsX7_driver (wsV RX7 154 RX7 yX7_becomesFree wsX7_becomesFree) := goodIn_app (goodIn_of _ (by decide +kernel)) ggX7_driver_X7_becomesFree
theorem dX7_driver_0 : decode cX7_driver 0 = .ok (.aload_n 0, 1) := by decide +kernel
theorem dX7_driver_1 : decode cX7_driver 1 = .ok (.iload_n 1, 1) := by decide +kernel
theorem dX7_driver_2 : decode cX7_driver 2 = .ok (.invokestatic 137, 3) := by decide +kernel
theorem dX7_driver_5 : decode cX7_driver 5 = .ok (.ifCond .ne 7, 3) := by decide +kernel
theorem dX7_driver_8 : decode cX7_driver 8 = .ok (.iconst 1, 1) := by decide +kernel
theorem dX7_driver_9 : decode cX7_driver 9 = .ok (.goto 17, 3) := by decide +kernel
theorem dX7_driver_12 : decode cX7_driver 12 = .ok (.aload_n 0, 1) := by decide +kernel
theorem dX7_driver_13 : decode cX7_driver 13 = .ok (.getfield 127, 3) := by decide +kernel
theorem dX7_driver_16 : decode cX7_driver 16 = .ok (.bipush 8, 2) := by decide +kernel
theorem dX7_driver_18 : decode cX7_driver 18 = .ok (.if_icmp .ne 7, 3) := by decide +kernel
theorem dX7_driver_21 : decode cX7_driver 21 = .ok (.iconst 2, 1) := by decide +kernel
theorem dX7_driver_22 : decode cX7_driver 22 = .ok (.goto 4, 3) := by decide +kernel
theorem dX7_driver_25 : decode cX7_driver 25 = .ok (.iconst 0, 1) := by decide +kernel
theorem dX7_driver_26 : decode cX7_driver 26 = .ok (.invokevirtual 141, 3) := by decide +kernel
theorem dX7_driver_29 : decode cX7_driver 29 = .ok (.ifCond .eq 5, 3) := by decide +kernel
theorem dX7_driver_32 : decode cX7_driver 32 = .ok (.iconst 0, 1) := by decide +kernel
theorem dX7_driver_33 : decode cX7_driver 33 = .ok (.ireturn, 1) := by decide +kernel
theorem dX7_driver_34 : decode cX7_driver 34 = .ok (.aload_n 0, 1) := by decide +kernel
theorem dX7_driver_35 : decode cX7_driver 35 = .ok (.getfield 26, 3) := by decide +kernel
theorem dX7_driver_38 : decode cX7_driver 38 = .ok (.aload_n 0, 1) := by decide +kernel
theorem dX7_driver_39 : decode cX7_driver 39 = .ok (.getfield 127, 3) := by decide +kernel
theorem dX7_driver_42 : decode cX7_driver 42 = .ok (.iload_n 1, 1) := by decide +kernel
theorem dX7_driver_43 : decode cX7_driver 43 = .ok (.iastore, 1) := by decide +kernel
theorem dX7_driver_44 : decode cX7_driver 44 = .ok (.aload_n 0, 1) := by decide +kernel
theorem dX7_driver_45 : decode cX7_driver 45 = .ok (.dup, 1) := by decide +kernel
theorem dX7_driver_46 : decode cX7_driver 46 = .ok (.getfield 127, 3) := by decide +kernel
theorem dX7_driver_49 : decode cX7_driver 49 = .ok (.iconst 1, 1) := by decide +kernel
theorem dX7_driver_50 : decode cX7_driver 50 = .ok (.iadd, 1) := by decide +kernel
theorem dX7_driver_51 : decode cX7_driver 51 = .ok (.putfield 127, 3) := by decide +kernel
theorem dX7_driver_54 : decode cX7_driver 54 = .ok (.aload_n 0, 1) := by decide +kernel
theorem dX7_driver_55 : decode cX7_driver 55 = .ok (.aload_n 0, 1) := by decide +kernel
theorem dX7_driver_56 : decode cX7_driver 56 = .ok (.getfield 127, 3) := by decide +kernel
theorem dX7_driver_59 : decode cX7_driver 59 = .ok (.iconst 1, 1) := by decide +kernel
theorem dX7_driver_60 : decode cX7_driver 60 = .ok (.isub, 1) := by decide +kernel
theorem dX7_driver_61 : decode cX7_driver 61 = .ok (.invokevirtual 154, 3) := by decide +kernel
theorem dX7_driver_64 : decode cX7_driver 64 = .ok (.aload_n 0, 1) := by decide +kernel
theorem dX7_driver_65 : decode cX7_driver 65 = .ok (.getfield 127, 3) := by decide +kernel
theorem dX7_driver_68 : decode cX7_driver 68 = .ok (.iconst 1, 1) := by decide +kernel
theorem dX7_driver_69 : decode cX7_driver 69 = .ok (.isub, 1) := by decide +kernel
theorem dX7_driver_70 : decode cX7_driver 70 = .ok (.ireturn, 1) := by decide +kernel
set_option maxRecDepth 20000 in
theorem ggX7_rest_X7_isDriver : GoodIn wsX7_rest wsX7_isDriver := goodIn_r _ [7, 8, 9, 10, 6, 11, 28, 29, 30, 31, 32, 33, 34, 35, 36, 37, 38, 39, 40, 41, 42, 43, 44, 45, 46, 47, 48, 49, 50, 51, 52, 53, 54, 55, 56, 57, 58, 59, 60, 61, 62, 63, 64, 65, 66, 67, 68, 69] (by decide +kernel) (by decide +kernel)
set_option maxRecDepth 20000 in
theorem gX7_rest_X7_isDriver : GoodIn wsX7_rest (wsV RX7 158 RX7 yX7_isDriver wsX7_isDriver) := goodIn_app (goodIn_of _ (by decide +kernel)) ggX7_rest_X7_isDriver
set_option maxRecDepth 20000 in
theorem ggX7_rest_X7_refused : GoodIn wsX7_rest wsX7_refused := goodIn_r _ [15, 16, 28, 29, 30, 31, 32, 33, 34, 35, 36, 37, 38, 39, 40, 41, 42, 43, 44, 45, 46, 47, 48, 49, 50, 51, 52, 53, 54, 55, 56, 57, 58, 59, 60, 61, 62, 63, 64, 65, 66, 67, 68, 69] (by decide +kernel) (by decide +kernel)
set_option maxRecDepth 20000 in
theorem gX7_rest_X7_refused : GoodIn wsX7_rest (wsV RX7 141 RX7 yX7_refused wsX7_refused) := goodIn_app (goodIn_of _ (by decide +kernel)) ggX7_rest_X7_refused
set_option maxRecDepth 20000 in
theorem ggX7_rest_X7_becomesFree : GoodIn wsX7_rest wsX7_becomesFree := goodIn_r _ [20, 21, 22, 23, 24, 25, 6, 26, 1, 2, 27, 28, 29, 30, 31, 32, 33, 34, 35, 36, 37, 38, 39, 40, 41, 42, 43, 44, 45, 46, 47, 48, 49, 50, 51, 52, 53, 54, 55, 56, 57, 58, 59, 60, 61, 62, 63, 64, 65, 66, 67, 68, 69] (by decide +kernel) (by decide +kernel)
set_option maxRecDepth 20000 in
theorem gX7_rest_X7_becomesFree : GoodIn wsX7_rest (wsV RX7 154 RX7 yX7_becomesFree wsX7_becomesFree) := goodIn_app (goodIn_of _ (by decide +kernel)) ggX7_rest_X7_becomesFree
theorem dX7_rest_0 : decode cX7_rest 0 = .ok (.aload_n 0, 1) := by decide +kernel
theorem dX7_rest_1 : decode cX7_rest 1 = .ok (.iload_n 1, 1) := by decide +kernel
theorem dX7_rest_2 : decode cX7_rest 2 = .ok (.invokevirtual 158, 3) := by decide +kernel
theorem dX7_rest_5 : decode cX7_rest 5 = .ok (.istore_n 3, 1) := by decide +kernel
theorem dX7_rest_6 : decode cX7_rest 6 = .ok (.aload_n 0, 1) := by decide +kernel
theorem dX7_rest_7 : decode cX7_rest 7 = .ok (.iload_n 3, 1) := by decide +kernel
theorem dX7_rest_8 : decode cX7_rest 8 = .ok (.ifCond .ne 7, 3) := by decide +kernel
theorem dX7_rest_11 : decode cX7_rest 11 = .ok (.iconst 1, 1) := by decide +kernel
theorem dX7_rest_12 : decode cX7_rest 12 = .ok (.goto 17, 3) := by decide +kernel
theorem dX7_rest_15 : decode cX7_rest 15 = .ok (.aload_n 0, 1) := by decide +kernel
theorem dX7_rest_16 : decode cX7_rest 16 = .ok (.getfield 36, 3) := by decide +kernel
theorem dX7_rest_19 : decode cX7_rest 19 = .ok (.iload_n 1, 1) := by decide +kernel
theorem dX7_rest_20 : decode cX7_rest 20 = .ok (.iaload, 1) := by decide +kernel
theorem dX7_rest_21 : decode cX7_rest 21 = .ok (.ifCond .le 7, 3) := by decide +kernel
theorem dX7_rest_24 : decode cX7_rest 24 = .ok (.iconst 2, 1) := by decide +kernel
theorem dX7_rest_25 : decode cX7_rest 25 = .ok (.goto 4, 3) := by decide +kernel
theorem dX7_rest_28 : decode cX7_rest 28 = .ok (.iconst 0, 1) := by decide +kernel
theorem dX7_rest_29 : decode cX7_rest 29 = .ok (.invokevirtual 141, 3) := by decide +kernel
theorem dX7_rest_32 : decode cX7_rest 32 = .ok (.ifCond .eq 5, 3) := by decide +kernel
theorem dX7_rest_35 : decode cX7_rest 35 = .ok (.iconst 0, 1) := by decide +kernel
theorem dX7_rest_36 : decode cX7_rest 36 = .ok (.ireturn, 1) := by decide +kernel
theorem dX7_rest_37 : decode cX7_rest 37 = .ok (.aload_n 0, 1) := by decide +kernel
theorem dX7_rest_38 : decode cX7_rest 38 = .ok (.getfield 29, 3) := by decide +kernel
theorem dX7_rest_41 : decode cX7_rest 41 = .ok (.iload_n 1, 1) := by decide +kernel
theorem dX7_rest_42 : decode cX7_rest 42 = .ok (.baload, 1) := by decide +kernel
theorem dX7_rest_43 : decode cX7_rest 43 = .ok (.istore 4, 2) := by decide +kernel
theorem dX7_rest_45 : decode cX7_rest 45 = .ok (.aload_n 0, 1) := by decide +kernel
theorem dX7_rest_46 : decode cX7_rest 46 = .ok (.getfield 29, 3) := by decide +kernel
theorem dX7_rest_49 : decode cX7_rest 49 = .ok (.iload_n 1, 1) := by decide +kernel
theorem dX7_rest_50 : decode cX7_rest 50 = .ok (.iload_n 2, 1) := by decide +kernel
theorem dX7_rest_51 : decode cX7_rest 51 = .ok (.bastore, 1) := by decide +kernel
theorem dX7_rest_52 : decode cX7_rest 52 = .ok (.iload 4, 2) := by decide +kernel
theorem dX7_rest_54 : decode cX7_rest 54 = .ok (.ifCond .eq 12, 3) := by decide +kernel
theorem dX7_rest_57 : decode cX7_rest 57 = .ok (.iload_n 2, 1) := by decide +kernel
theorem dX7_rest_58 : decode cX7_rest 58 = .ok (.ifCond .ne 8, 3) := by decide +kernel
theorem dX7_rest_61 : decode cX7_rest 61 = .ok (.aload_n 0, 1) := by decide +kernel
theorem dX7_rest_62 : decode cX7_rest 62 = .ok (.iload_n 1, 1) := by decide +kernel
theorem dX7_rest_63 : decode cX7_rest 63 = .ok (.invokevirtual 154, 3) := by decide +kernel
theorem dX7_rest_66 : decode cX7_rest 66 = .ok (.iload 4, 2) := by decide +kernel
theorem dX7_rest_68 : decode cX7_rest 68 = .ok (.ireturn, 1) := by decide +kernel
set_option maxRecDepth 20000 in
theorem ggX7_leaves_X7_wayOf : GoodIn wsX7_leaves wsX7_wayOf := goodIn_r _ [10, 11, 34, 35, 36, 37, 38, 39, 40, 41, 42, 43, 44, 45, 46, 47, 48, 49, 50, 51, 52, 53, 54, 55, 56, 57, 58, 59, 60, 61, 62, 63, 64, 65, 66, 67, 68, 69, 70, 71, 72, 73, 74, 75] (by decide +kernel) (by decide +kernel)
set_option maxRecDepth 20000 in
theorem gX7_leaves_X7_wayOf : GoodIn wsX7_leaves (wsV RX7 144 RX7 yX7_wayOf wsX7_wayOf) := goodIn_app (goodIn_of _ (by decide +kernel)) ggX7_leaves_X7_wayOf
set_option maxRecDepth 20000 in
theorem ggX7_leaves_X7_takeFirst : GoodIn wsX7_leaves wsX7_takeFirst := goodIn_r _ [15, 16, 4, 5, 1, 17, 18, 3, 19, 20, 21, 34, 35, 36, 37, 38, 39, 40, 41, 42, 43, 44, 45, 46, 47, 48, 49, 50, 51, 52, 53, 54, 55, 56, 57, 58, 59, 60, 61, 62, 63, 64, 65, 66, 67, 68, 69, 70, 71, 72, 73, 74, 75] (by decide +kernel) (by decide +kernel)
set_option maxRecDepth 20000 in
theorem gX7_leaves_X7_takeFirst : GoodIn wsX7_leaves (wsV RX7 164 RX7 yX7_takeFirst wsX7_takeFirst) := goodIn_app (goodIn_of _ (by decide +kernel)) ggX7_leaves_X7_takeFirst
set_option maxRecDepth 20000 in
theorem ggX7_leaves_X7_becomesFree : GoodIn wsX7_leaves wsX7_becomesFree := goodIn_r _ [25, 26, 27, 28, 29, 30, 9, 31, 1, 32, 33, 34, 35, 36, 37, 38, 39, 40, 41, 42, 43, 44, 45, 46, 47, 48, 49, 50, 51, 52, 53, 54, 55, 56, 57, 58, 59, 60, 61, 62, 63, 64, 65, 66, 67, 68, 69, 70, 71, 72, 73, 74, 75] (by decide +kernel) (by decide +kernel)
set_option maxRecDepth 20000 in
theorem gX7_leaves_X7_becomesFree : GoodIn wsX7_leaves (wsV RX7 154 RX7 yX7_becomesFree wsX7_becomesFree) := goodIn_app (goodIn_of _ (by decide +kernel)) ggX7_leaves_X7_becomesFree
theorem dX7_leaves_0 : decode cX7_leaves 0 = .ok (.iconst 1, 1) := by decide +kernel
theorem dX7_leaves_1 : decode cX7_leaves 1 = .ok (.istore_n 2, 1) := by decide +kernel
theorem dX7_leaves_2 : decode cX7_leaves 2 = .ok (.iload_n 2, 1) := by decide +kernel
theorem dX7_leaves_3 : decode cX7_leaves 3 = .ok (.ifCond .eq 73, 3) := by decide +kernel
theorem dX7_leaves_6 : decode cX7_leaves 6 = .ok (.aload_n 0, 1) := by decide +kernel
theorem dX7_leaves_7 : decode cX7_leaves 7 = .ok (.getfield 36, 3) := by decide +kernel
theorem dX7_leaves_10 : decode cX7_leaves 10 = .ok (.iload_n 1, 1) := by decide +kernel
theorem dX7_leaves_11 : decode cX7_leaves 11 = .ok (.iaload, 1) := by decide +kernel
theorem dX7_leaves_12 : decode cX7_leaves 12 = .ok (.ifCond .le 64, 3) := by decide +kernel
theorem dX7_leaves_15 : decode cX7_leaves 15 = .ok (.aload_n 0, 1) := by decide +kernel
theorem dX7_leaves_16 : decode cX7_leaves 16 = .ok (.getfield 45, 3) := by decide +kernel
theorem dX7_leaves_19 : decode cX7_leaves 19 = .ok (.iload_n 1, 1) := by decide +kernel
theorem dX7_leaves_20 : decode cX7_leaves 20 = .ok (.aload_n 0, 1) := by decide +kernel
theorem dX7_leaves_21 : decode cX7_leaves 21 = .ok (.getfield 161, 3) := by decide +kernel
theorem dX7_leaves_24 : decode cX7_leaves 24 = .ok (.aload_n 0, 1) := by decide +kernel
theorem dX7_leaves_25 : decode cX7_leaves 25 = .ok (.aload_n 0, 1) := by decide +kernel
theorem dX7_leaves_26 : decode cX7_leaves 26 = .ok (.getfield 26, 3) := by decide +kernel
theorem dX7_leaves_29 : decode cX7_leaves 29 = .ok (.iload_n 1, 1) := by decide +kernel
theorem dX7_leaves_30 : decode cX7_leaves 30 = .ok (.iaload, 1) := by decide +kernel
theorem dX7_leaves_31 : decode cX7_leaves 31 = .ok (.aload_n 0, 1) := by decide +kernel
theorem dX7_leaves_32 : decode cX7_leaves 32 = .ok (.getfield 39, 3) := by decide +kernel
theorem dX7_leaves_35 : decode cX7_leaves 35 = .ok (.bipush 8, 2) := by decide +kernel
theorem dX7_leaves_37 : decode cX7_leaves 37 = .ok (.iload_n 1, 1) := by decide +kernel
theorem dX7_leaves_38 : decode cX7_leaves 38 = .ok (.imul, 1) := by decide +kernel
theorem dX7_leaves_39 : decode cX7_leaves 39 = .ok (.iaload, 1) := by decide +kernel
theorem dX7_leaves_40 : decode cX7_leaves 40 = .ok (.invokevirtual 144, 3) := by decide +kernel
theorem dX7_leaves_43 : decode cX7_leaves 43 = .ok (.iadd, 1) := by decide +kernel
theorem dX7_leaves_44 : decode cX7_leaves 44 = .ok (.iastore, 1) := by decide +kernel
theorem dX7_leaves_45 : decode cX7_leaves 45 = .ok (.aload_n 0, 1) := by decide +kernel
theorem dX7_leaves_46 : decode cX7_leaves 46 = .ok (.getfield 45, 3) := by decide +kernel
theorem dX7_leaves_49 : decode cX7_leaves 49 = .ok (.iload_n 1, 1) := by decide +kernel
theorem dX7_leaves_50 : decode cX7_leaves 50 = .ok (.iaload, 1) := by decide +kernel
theorem dX7_leaves_51 : decode cX7_leaves 51 = .ok (.aload_n 0, 1) := by decide +kernel
theorem dX7_leaves_52 : decode cX7_leaves 52 = .ok (.getfield 161, 3) := by decide +kernel
theorem dX7_leaves_55 : decode cX7_leaves 55 = .ok (.if_icmp .ne 7, 3) := by decide +kernel
theorem dX7_leaves_58 : decode cX7_leaves 58 = .ok (.iconst 1, 1) := by decide +kernel
theorem dX7_leaves_59 : decode cX7_leaves 59 = .ok (.goto 4, 3) := by decide +kernel
theorem dX7_leaves_62 : decode cX7_leaves 62 = .ok (.iconst 0, 1) := by decide +kernel
theorem dX7_leaves_63 : decode cX7_leaves 63 = .ok (.istore_n 2, 1) := by decide +kernel
theorem dX7_leaves_64 : decode cX7_leaves 64 = .ok (.iload_n 2, 1) := by decide +kernel
theorem dX7_leaves_65 : decode cX7_leaves 65 = .ok (.ifCond .eq (-63), 3) := by decide +kernel
theorem dX7_leaves_68 : decode cX7_leaves 68 = .ok (.aload_n 0, 1) := by decide +kernel
theorem dX7_leaves_69 : decode cX7_leaves 69 = .ok (.iload_n 1, 1) := by decide +kernel
theorem dX7_leaves_70 : decode cX7_leaves 70 = .ok (.invokevirtual 164, 3) := by decide +kernel
theorem dX7_leaves_73 : decode cX7_leaves 73 = .ok (.goto (-71), 3) := by decide +kernel
theorem dX7_leaves_76 : decode cX7_leaves 76 = .ok (.aload_n 0, 1) := by decide +kernel
theorem dX7_leaves_77 : decode cX7_leaves 77 = .ok (.iload_n 1, 1) := by decide +kernel
theorem dX7_leaves_78 : decode cX7_leaves 78 = .ok (.invokevirtual 154, 3) := by decide +kernel
theorem dX7_leaves_81 : decode cX7_leaves 81 = .ok (.return_, 1) := by decide +kernel
theorem dX7_takeFirst_0 : decode cX7_takeFirst 0 = .ok (.bipush 8, 2) := by decide +kernel
theorem dX7_takeFirst_2 : decode cX7_takeFirst 2 = .ok (.iload_n 1, 1) := by decide +kernel
theorem dX7_takeFirst_3 : decode cX7_takeFirst 3 = .ok (.imul, 1) := by decide +kernel
theorem dX7_takeFirst_4 : decode cX7_takeFirst 4 = .ok (.istore_n 2, 1) := by decide +kernel
theorem dX7_takeFirst_5 : decode cX7_takeFirst 5 = .ok (.aload_n 0, 1) := by decide +kernel
theorem dX7_takeFirst_6 : decode cX7_takeFirst 6 = .ok (.getfield 42, 3) := by decide +kernel
theorem dX7_takeFirst_9 : decode cX7_takeFirst 9 = .ok (.iload_n 2, 1) := by decide +kernel
theorem dX7_takeFirst_10 : decode cX7_takeFirst 10 = .ok (.iaload, 1) := by decide +kernel
theorem dX7_takeFirst_11 : decode cX7_takeFirst 11 = .ok (.istore_n 3, 1) := by decide +kernel
theorem dX7_takeFirst_12 : decode cX7_takeFirst 12 = .ok (.aload_n 0, 1) := by decide +kernel
theorem dX7_takeFirst_13 : decode cX7_takeFirst 13 = .ok (.getfield 26, 3) := by decide +kernel
theorem dX7_takeFirst_16 : decode cX7_takeFirst 16 = .ok (.iload_n 1, 1) := by decide +kernel
theorem dX7_takeFirst_17 : decode cX7_takeFirst 17 = .ok (.aload_n 0, 1) := by decide +kernel
theorem dX7_takeFirst_18 : decode cX7_takeFirst 18 = .ok (.getfield 39, 3) := by decide +kernel
theorem dX7_takeFirst_21 : decode cX7_takeFirst 21 = .ok (.iload_n 2, 1) := by decide +kernel
theorem dX7_takeFirst_22 : decode cX7_takeFirst 22 = .ok (.iaload, 1) := by decide +kernel
theorem dX7_takeFirst_23 : decode cX7_takeFirst 23 = .ok (.iastore, 1) := by decide +kernel
theorem dX7_takeFirst_24 : decode cX7_takeFirst 24 = .ok (.iload_n 2, 1) := by decide +kernel
theorem dX7_takeFirst_25 : decode cX7_takeFirst 25 = .ok (.istore 4, 2) := by decide +kernel
theorem dX7_takeFirst_27 : decode cX7_takeFirst 27 = .ok (.iload 4, 2) := by decide +kernel
theorem dX7_takeFirst_29 : decode cX7_takeFirst 29 = .ok (.iload_n 2, 1) := by decide +kernel
theorem dX7_takeFirst_30 : decode cX7_takeFirst 30 = .ok (.aload_n 0, 1) := by decide +kernel
theorem dX7_takeFirst_31 : decode cX7_takeFirst 31 = .ok (.getfield 36, 3) := by decide +kernel
theorem dX7_takeFirst_34 : decode cX7_takeFirst 34 = .ok (.iload_n 1, 1) := by decide +kernel
theorem dX7_takeFirst_35 : decode cX7_takeFirst 35 = .ok (.iaload, 1) := by decide +kernel
theorem dX7_takeFirst_36 : decode cX7_takeFirst 36 = .ok (.iadd, 1) := by decide +kernel
theorem dX7_takeFirst_37 : decode cX7_takeFirst 37 = .ok (.iconst 1, 1) := by decide +kernel
theorem dX7_takeFirst_38 : decode cX7_takeFirst 38 = .ok (.isub, 1) := by decide +kernel
theorem dX7_takeFirst_39 : decode cX7_takeFirst 39 = .ok (.if_icmp .ge 41, 3) := by decide +kernel
theorem dX7_takeFirst_42 : decode cX7_takeFirst 42 = .ok (.aload_n 0, 1) := by decide +kernel
theorem dX7_takeFirst_43 : decode cX7_takeFirst 43 = .ok (.getfield 39, 3) := by decide +kernel
theorem dX7_takeFirst_46 : decode cX7_takeFirst 46 = .ok (.iload 4, 2) := by decide +kernel
theorem dX7_takeFirst_48 : decode cX7_takeFirst 48 = .ok (.aload_n 0, 1) := by decide +kernel
theorem dX7_takeFirst_49 : decode cX7_takeFirst 49 = .ok (.getfield 39, 3) := by decide +kernel
theorem dX7_takeFirst_52 : decode cX7_takeFirst 52 = .ok (.iload 4, 2) := by decide +kernel
theorem dX7_takeFirst_54 : decode cX7_takeFirst 54 = .ok (.iconst 1, 1) := by decide +kernel
theorem dX7_takeFirst_55 : decode cX7_takeFirst 55 = .ok (.iadd, 1) := by decide +kernel
theorem dX7_takeFirst_56 : decode cX7_takeFirst 56 = .ok (.iaload, 1) := by decide +kernel
theorem dX7_takeFirst_57 : decode cX7_takeFirst 57 = .ok (.iastore, 1) := by decide +kernel
theorem dX7_takeFirst_58 : decode cX7_takeFirst 58 = .ok (.aload_n 0, 1) := by decide +kernel
theorem dX7_takeFirst_59 : decode cX7_takeFirst 59 = .ok (.getfield 42, 3) := by decide +kernel
theorem dX7_takeFirst_62 : decode cX7_takeFirst 62 = .ok (.iload 4, 2) := by decide +kernel
theorem dX7_takeFirst_64 : decode cX7_takeFirst 64 = .ok (.aload_n 0, 1) := by decide +kernel
theorem dX7_takeFirst_65 : decode cX7_takeFirst 65 = .ok (.getfield 42, 3) := by decide +kernel
theorem dX7_takeFirst_68 : decode cX7_takeFirst 68 = .ok (.iload 4, 2) := by decide +kernel
theorem dX7_takeFirst_70 : decode cX7_takeFirst 70 = .ok (.iconst 1, 1) := by decide +kernel
theorem dX7_takeFirst_71 : decode cX7_takeFirst 71 = .ok (.iadd, 1) := by decide +kernel
theorem dX7_takeFirst_72 : decode cX7_takeFirst 72 = .ok (.iaload, 1) := by decide +kernel
theorem dX7_takeFirst_73 : decode cX7_takeFirst 73 = .ok (.iastore, 1) := by decide +kernel
theorem dX7_takeFirst_74 : decode cX7_takeFirst 74 = .ok (.iinc 4 1, 3) := by decide +kernel
theorem dX7_takeFirst_77 : decode cX7_takeFirst 77 = .ok (.goto (-50), 3) := by decide +kernel
theorem dX7_takeFirst_80 : decode cX7_takeFirst 80 = .ok (.aload_n 0, 1) := by decide +kernel
theorem dX7_takeFirst_81 : decode cX7_takeFirst 81 = .ok (.getfield 36, 3) := by decide +kernel
theorem dX7_takeFirst_84 : decode cX7_takeFirst 84 = .ok (.iload_n 1, 1) := by decide +kernel
theorem dX7_takeFirst_85 : decode cX7_takeFirst 85 = .ok (.dup2, 1) := by decide +kernel
theorem dX7_takeFirst_86 : decode cX7_takeFirst 86 = .ok (.iaload, 1) := by decide +kernel
theorem dX7_takeFirst_87 : decode cX7_takeFirst 87 = .ok (.iconst 1, 1) := by decide +kernel
theorem dX7_takeFirst_88 : decode cX7_takeFirst 88 = .ok (.isub, 1) := by decide +kernel
theorem dX7_takeFirst_89 : decode cX7_takeFirst 89 = .ok (.iastore, 1) := by decide +kernel
theorem dX7_takeFirst_90 : decode cX7_takeFirst 90 = .ok (.iload_n 3, 1) := by decide +kernel
theorem dX7_takeFirst_91 : decode cX7_takeFirst 91 = .ok (.bipush 100, 2) := by decide +kernel
theorem dX7_takeFirst_93 : decode cX7_takeFirst 93 = .ok (.if_icmp .lt 57, 3) := by decide +kernel
theorem dX7_takeFirst_96 : decode cX7_takeFirst 96 = .ok (.iload_n 3, 1) := by decide +kernel
theorem dX7_takeFirst_97 : decode cX7_takeFirst 97 = .ok (.bipush 100, 2) := by decide +kernel
theorem dX7_takeFirst_99 : decode cX7_takeFirst 99 = .ok (.isub, 1) := by decide +kernel
theorem dX7_takeFirst_100 : decode cX7_takeFirst 100 = .ok (.istore 4, 2) := by decide +kernel
theorem dX7_takeFirst_102 : decode cX7_takeFirst 102 = .ok (.aload_n 0, 1) := by decide +kernel
theorem dX7_takeFirst_103 : decode cX7_takeFirst 103 = .ok (.getfield 66, 3) := by decide +kernel
theorem dX7_takeFirst_106 : decode cX7_takeFirst 106 = .ok (.iload 4, 2) := by decide +kernel
theorem dX7_takeFirst_108 : decode cX7_takeFirst 108 = .ok (.iconst 3, 1) := by decide +kernel
theorem dX7_takeFirst_109 : decode cX7_takeFirst 109 = .ok (.iastore, 1) := by decide +kernel
theorem dX7_takeFirst_110 : decode cX7_takeFirst 110 = .ok (.aload_n 0, 1) := by decide +kernel
theorem dX7_takeFirst_111 : decode cX7_takeFirst 111 = .ok (.getfield 90, 3) := by decide +kernel
theorem dX7_takeFirst_114 : decode cX7_takeFirst 114 = .ok (.iload 4, 2) := by decide +kernel
theorem dX7_takeFirst_116 : decode cX7_takeFirst 116 = .ok (.aload_n 0, 1) := by decide +kernel
theorem dX7_takeFirst_117 : decode cX7_takeFirst 117 = .ok (.getfield 161, 3) := by decide +kernel
theorem dX7_takeFirst_120 : decode cX7_takeFirst 120 = .ok (.iastore, 1) := by decide +kernel
theorem dX7_takeFirst_121 : decode cX7_takeFirst 121 = .ok (.aload_n 0, 1) := by decide +kernel
theorem dX7_takeFirst_122 : decode cX7_takeFirst 122 = .ok (.getfield 60, 3) := by decide +kernel
theorem dX7_takeFirst_125 : decode cX7_takeFirst 125 = .ok (.iload_n 1, 1) := by decide +kernel
theorem dX7_takeFirst_126 : decode cX7_takeFirst 126 = .ok (.dup2, 1) := by decide +kernel
theorem dX7_takeFirst_127 : decode cX7_takeFirst 127 = .ok (.iaload, 1) := by decide +kernel
theorem dX7_takeFirst_128 : decode cX7_takeFirst 128 = .ok (.iconst 1, 1) := by decide +kernel
theorem dX7_takeFirst_129 : decode cX7_takeFirst 129 = .ok (.iadd, 1) := by decide +kernel
theorem dX7_takeFirst_130 : decode cX7_takeFirst 130 = .ok (.iastore, 1) := by decide +kernel
theorem dX7_takeFirst_131 : decode cX7_takeFirst 131 = .ok (.aload_n 0, 1) := by decide +kernel
theorem dX7_takeFirst_132 : decode cX7_takeFirst 132 = .ok (.getfield 63, 3) := by decide +kernel
theorem dX7_takeFirst_135 : decode cX7_takeFirst 135 = .ok (.iload_n 1, 1) := by decide +kernel
theorem dX7_takeFirst_136 : decode cX7_takeFirst 136 = .ok (.dup2, 1) := by decide +kernel
theorem dX7_takeFirst_137 : decode cX7_takeFirst 137 = .ok (.iaload, 1) := by decide +kernel
theorem dX7_takeFirst_138 : decode cX7_takeFirst 138 = .ok (.aload_n 0, 1) := by decide +kernel
theorem dX7_takeFirst_139 : decode cX7_takeFirst 139 = .ok (.getfield 81, 3) := by decide +kernel
theorem dX7_takeFirst_142 : decode cX7_takeFirst 142 = .ok (.iload 4, 2) := by decide +kernel
theorem dX7_takeFirst_144 : decode cX7_takeFirst 144 = .ok (.iaload, 1) := by decide +kernel
theorem dX7_takeFirst_145 : decode cX7_takeFirst 145 = .ok (.iadd, 1) := by decide +kernel
theorem dX7_takeFirst_146 : decode cX7_takeFirst 146 = .ok (.iastore, 1) := by decide +kernel
theorem dX7_takeFirst_147 : decode cX7_takeFirst 147 = .ok (.goto 14, 3) := by decide +kernel
theorem dX7_takeFirst_150 : decode cX7_takeFirst 150 = .ok (.iload_n 3, 1) := by decide +kernel
theorem dX7_takeFirst_151 : decode cX7_takeFirst 151 = .ok (.ifCond .lt 10, 3) := by decide +kernel
theorem dX7_takeFirst_154 : decode cX7_takeFirst 154 = .ok (.aload_n 0, 1) := by decide +kernel
theorem dX7_takeFirst_155 : decode cX7_takeFirst 155 = .ok (.getfield 66, 3) := by decide +kernel
theorem dX7_takeFirst_158 : decode cX7_takeFirst 158 = .ok (.iload_n 3, 1) := by decide +kernel
theorem dX7_takeFirst_159 : decode cX7_takeFirst 159 = .ok (.iconst 2, 1) := by decide +kernel
theorem dX7_takeFirst_160 : decode cX7_takeFirst 160 = .ok (.iastore, 1) := by decide +kernel
theorem dX7_takeFirst_161 : decode cX7_takeFirst 161 = .ok (.return_, 1) := by decide +kernel
theorem dX7_add_0 : decode cX7_add 0 = .ok (.aload_n 0, 1) := by decide +kernel
theorem dX7_add_1 : decode cX7_add 1 = .ok (.getfield 39, 3) := by decide +kernel
theorem dX7_add_4 : decode cX7_add 4 = .ok (.bipush 8, 2) := by decide +kernel
theorem dX7_add_6 : decode cX7_add 6 = .ok (.iload_n 1, 1) := by decide +kernel
theorem dX7_add_7 : decode cX7_add 7 = .ok (.imul, 1) := by decide +kernel
theorem dX7_add_8 : decode cX7_add 8 = .ok (.aload_n 0, 1) := by decide +kernel
theorem dX7_add_9 : decode cX7_add 9 = .ok (.getfield 36, 3) := by decide +kernel
theorem dX7_add_12 : decode cX7_add 12 = .ok (.iload_n 1, 1) := by decide +kernel
theorem dX7_add_13 : decode cX7_add 13 = .ok (.iaload, 1) := by decide +kernel
theorem dX7_add_14 : decode cX7_add 14 = .ok (.iadd, 1) := by decide +kernel
theorem dX7_add_15 : decode cX7_add 15 = .ok (.iload_n 2, 1) := by decide +kernel
theorem dX7_add_16 : decode cX7_add 16 = .ok (.iastore, 1) := by decide +kernel
theorem dX7_add_17 : decode cX7_add 17 = .ok (.aload_n 0, 1) := by decide +kernel
theorem dX7_add_18 : decode cX7_add 18 = .ok (.getfield 42, 3) := by decide +kernel
theorem dX7_add_21 : decode cX7_add 21 = .ok (.bipush 8, 2) := by decide +kernel
theorem dX7_add_23 : decode cX7_add 23 = .ok (.iload_n 1, 1) := by decide +kernel
theorem dX7_add_24 : decode cX7_add 24 = .ok (.imul, 1) := by decide +kernel
theorem dX7_add_25 : decode cX7_add 25 = .ok (.aload_n 0, 1) := by decide +kernel
theorem dX7_add_26 : decode cX7_add 26 = .ok (.getfield 36, 3) := by decide +kernel
theorem dX7_add_29 : decode cX7_add 29 = .ok (.iload_n 1, 1) := by decide +kernel
theorem dX7_add_30 : decode cX7_add 30 = .ok (.iaload, 1) := by decide +kernel
theorem dX7_add_31 : decode cX7_add 31 = .ok (.iadd, 1) := by decide +kernel
theorem dX7_add_32 : decode cX7_add 32 = .ok (.iload_n 3, 1) := by decide +kernel
theorem dX7_add_33 : decode cX7_add 33 = .ok (.iastore, 1) := by decide +kernel
theorem dX7_add_34 : decode cX7_add 34 = .ok (.aload_n 0, 1) := by decide +kernel
theorem dX7_add_35 : decode cX7_add 35 = .ok (.getfield 36, 3) := by decide +kernel
theorem dX7_add_38 : decode cX7_add 38 = .ok (.iload_n 1, 1) := by decide +kernel
theorem dX7_add_39 : decode cX7_add 39 = .ok (.dup2, 1) := by decide +kernel
theorem dX7_add_40 : decode cX7_add 40 = .ok (.iaload, 1) := by decide +kernel
theorem dX7_add_41 : decode cX7_add 41 = .ok (.iconst 1, 1) := by decide +kernel
theorem dX7_add_42 : decode cX7_add 42 = .ok (.iadd, 1) := by decide +kernel
theorem dX7_add_43 : decode cX7_add 43 = .ok (.iastore, 1) := by decide +kernel
theorem dX7_add_44 : decode cX7_add 44 = .ok (.return_, 1) := by decide +kernel
set_option maxRecDepth 20000 in
theorem ggX7_wander_X7_isDriver : GoodIn wsX7_wander wsX7_isDriver := goodIn_r _ [8, 9, 10, 11, 7, 12, 59, 60, 61, 62, 63, 64, 65, 66, 67, 68, 69, 70, 71, 72, 73, 74, 75, 76, 77, 78, 79, 80, 81, 82, 83, 84, 85, 86, 87, 88, 89, 90, 91, 92, 93, 94, 95, 96, 97, 98, 99, 100] (by decide +kernel) (by decide +kernel)
set_option maxRecDepth 20000 in
theorem gX7_wander_X7_isDriver : GoodIn wsX7_wander (wsV RX7 158 RX7 yX7_isDriver wsX7_isDriver) := goodIn_app (goodIn_of _ (by decide +kernel)) ggX7_wander_X7_isDriver
set_option maxRecDepth 20000 in
theorem ggX7_wander_X7_isPlace : GoodIn wsX7_wander wsX7_isPlace := goodIn_r _ [15, 10, 11, 7, 12] (by decide +kernel) (by decide +kernel)
set_option maxRecDepth 20000 in
theorem gX7_wander_X7_isPlace : GoodIn wsX7_wander (va_wsS RX7 137 yX7_isPlace wsX7_isPlace) := goodIn_app (goodIn_of _ (by decide +kernel)) ggX7_wander_X7_isPlace
set_option maxRecDepth 20000 in
theorem ggX7_wander_X7_isFree : GoodIn wsX7_wander wsX7_isFree := goodIn_r _ [19, 20, 21, 22, 59, 60, 61, 62, 63, 64, 65, 66, 67, 68, 69, 70, 71, 72, 73, 74, 75, 76, 77, 78, 79, 80, 81, 82, 83, 84, 85, 86, 87, 88, 89, 90, 91, 92, 93, 94, 95, 96, 97, 98, 99, 100] (by decide +kernel) (by decide +kernel)
set_option maxRecDepth 20000 in
theorem gX7_wander_X7_isFree : GoodIn wsX7_wander (wsV RX7 148 RX7 yX7_isFree wsX7_isFree) := goodIn_app (goodIn_of _ (by decide +kernel)) ggX7_wander_X7_isFree
set_option maxRecDepth 20000 in
theorem ggX7_wander_X7_wayOf : GoodIn wsX7_wander wsX7_wayOf := goodIn_r _ [26, 27, 59, 60, 61, 62, 63, 64, 65, 66, 67, 68, 69, 70, 71, 72, 73, 74, 75, 76, 77, 78, 79, 80, 81, 82, 83, 84, 85, 86, 87, 88, 89, 90, 91, 92, 93, 94, 95, 96, 97, 98, 99, 100] (by decide +kernel) (by decide +kernel)
set_option maxRecDepth 20000 in
theorem gX7_wander_X7_wayOf : GoodIn wsX7_wander (wsV RX7 144 RX7 yX7_wayOf wsX7_wayOf) := goodIn_app (goodIn_of _ (by decide +kernel)) ggX7_wander_X7_wayOf
set_option maxRecDepth 20000 in
theorem ggX7_wander_X7_refused : GoodIn wsX7_wander wsX7_refused := goodIn_r _ [31, 32, 59, 60, 61, 62, 63, 64, 65, 66, 67, 68, 69, 70, 71, 72, 73, 74, 75, 76, 77, 78, 79, 80, 81, 82, 83, 84, 85, 86, 87, 88, 89, 90, 91, 92, 93, 94, 95, 96, 97, 98, 99, 100] (by decide +kernel) (by decide +kernel)
set_option maxRecDepth 20000 in
theorem gX7_wander_X7_refused : GoodIn wsX7_wander (wsV RX7 141 RX7 yX7_refused wsX7_refused) := goodIn_app (goodIn_of _ (by decide +kernel)) ggX7_wander_X7_refused
set_option maxRecDepth 20000 in
theorem ggX7_wander_X7_add : GoodIn wsX7_wander wsX7_add := goodIn_r _ [36, 37, 20, 38, 59, 60, 61, 62, 63, 64, 65, 66, 67, 68, 69, 70, 71, 72, 73, 74, 75, 76, 77, 78, 79, 80, 81, 82, 83, 84, 85, 86, 87, 88, 89, 90, 91, 92, 93, 94, 95, 96, 97, 98, 99, 100] (by decide +kernel) (by decide +kernel)
set_option maxRecDepth 20000 in
theorem gX7_wander_X7_add : GoodIn wsX7_wander (wsV RX7 167 RX7 yX7_add wsX7_add) := goodIn_app (goodIn_of _ (by decide +kernel)) ggX7_wander_X7_add
set_option maxRecDepth 20000 in
theorem ggX7_wander_X7_leaves : GoodIn wsX7_wander wsX7_leaves := goodIn_r _ [42, 20, 3, 43, 1, 37, 23, 24, 25, 7, 26, 27, 44, 45, 46, 47, 38, 48, 49, 50, 51, 52, 53, 54, 55, 56, 57, 58, 16, 17, 18, 19, 21, 22, 59, 60, 61, 62, 63, 64, 65, 66, 67, 68, 69, 70, 71, 72, 73, 74, 75, 76, 77, 78, 79, 80, 81, 82, 83, 84, 85, 86, 87, 88, 89, 90, 91, 92, 93, 94, 95, 96, 97, 98, 99, 100] (by decide +kernel) (by decide +kernel)
set_option maxRecDepth 20000 in
theorem gX7_wander_X7_leaves : GoodIn wsX7_wander (wsV RX7 171 RX7 yX7_leaves wsX7_leaves) := goodIn_app (goodIn_of _ (by decide +kernel)) ggX7_wander_X7_leaves
theorem dX7_wander_0 : decode cX7_wander 0 = .ok (.aload_n 0, 1) := by decide +kernel
theorem dX7_wander_1 : decode cX7_wander 1 = .ok (.iload_n 1, 1) := by decide +kernel
theorem dX7_wander_2 : decode cX7_wander 2 = .ok (.invokevirtual 158, 3) := by decide +kernel
theorem dX7_wander_5 : decode cX7_wander 5 = .ok (.ifCond .eq 14, 3) := by decide +kernel
theorem dX7_wander_8 : decode cX7_wander 8 = .ok (.iload_n 2, 1) := by decide +kernel
theorem dX7_wander_9 : decode cX7_wander 9 = .ok (.invokestatic 137, 3) := by decide +kernel
theorem dX7_wander_12 : decode cX7_wander 12 = .ok (.ifCond .eq 7, 3) := by decide +kernel
theorem dX7_wander_15 : decode cX7_wander 15 = .ok (.iconst 1, 1) := by decide +kernel
theorem dX7_wander_16 : decode cX7_wander 16 = .ok (.goto 4, 3) := by decide +kernel
theorem dX7_wander_19 : decode cX7_wander 19 = .ok (.iconst 0, 1) := by decide +kernel
theorem dX7_wander_20 : decode cX7_wander 20 = .ok (.istore_n 3, 1) := by decide +kernel
theorem dX7_wander_21 : decode cX7_wander 21 = .ok (.iload_n 3, 1) := by decide +kernel
theorem dX7_wander_22 : decode cX7_wander 22 = .ok (.ifCond .eq 41, 3) := by decide +kernel
theorem dX7_wander_25 : decode cX7_wander 25 = .ok (.aload_n 0, 1) := by decide +kernel
theorem dX7_wander_26 : decode cX7_wander 26 = .ok (.iload_n 1, 1) := by decide +kernel
theorem dX7_wander_27 : decode cX7_wander 27 = .ok (.invokevirtual 148, 3) := by decide +kernel
theorem dX7_wander_30 : decode cX7_wander 30 = .ok (.ifCond .eq 33, 3) := by decide +kernel
theorem dX7_wander_33 : decode cX7_wander 33 = .ok (.iload_n 2, 1) := by decide +kernel
theorem dX7_wander_34 : decode cX7_wander 34 = .ok (.aload_n 0, 1) := by decide +kernel
theorem dX7_wander_35 : decode cX7_wander 35 = .ok (.getfield 26, 3) := by decide +kernel
theorem dX7_wander_38 : decode cX7_wander 38 = .ok (.iload_n 1, 1) := by decide +kernel
theorem dX7_wander_39 : decode cX7_wander 39 = .ok (.iaload, 1) := by decide +kernel
theorem dX7_wander_40 : decode cX7_wander 40 = .ok (.if_icmp .eq 23, 3) := by decide +kernel
theorem dX7_wander_43 : decode cX7_wander 43 = .ok (.aload_n 0, 1) := by decide +kernel
theorem dX7_wander_44 : decode cX7_wander 44 = .ok (.aload_n 0, 1) := by decide +kernel
theorem dX7_wander_45 : decode cX7_wander 45 = .ok (.getfield 26, 3) := by decide +kernel
theorem dX7_wander_48 : decode cX7_wander 48 = .ok (.iload_n 1, 1) := by decide +kernel
theorem dX7_wander_49 : decode cX7_wander 49 = .ok (.iaload, 1) := by decide +kernel
theorem dX7_wander_50 : decode cX7_wander 50 = .ok (.iload_n 2, 1) := by decide +kernel
theorem dX7_wander_51 : decode cX7_wander 51 = .ok (.invokevirtual 144, 3) := by decide +kernel
theorem dX7_wander_54 : decode cX7_wander 54 = .ok (.ldc 133, 2) := by decide +kernel
theorem dX7_wander_56 : decode cX7_wander 56 = .ok (.if_icmp .ge 7, 3) := by decide +kernel
theorem dX7_wander_59 : decode cX7_wander 59 = .ok (.iconst 1, 1) := by decide +kernel
theorem dX7_wander_60 : decode cX7_wander 60 = .ok (.goto 4, 3) := by decide +kernel
theorem dX7_wander_63 : decode cX7_wander 63 = .ok (.iconst 0, 1) := by decide +kernel
theorem dX7_wander_64 : decode cX7_wander 64 = .ok (.istore 4, 2) := by decide +kernel
theorem dX7_wander_66 : decode cX7_wander 66 = .ok (.aload_n 0, 1) := by decide +kernel
theorem dX7_wander_67 : decode cX7_wander 67 = .ok (.iload_n 3, 1) := by decide +kernel
theorem dX7_wander_68 : decode cX7_wander 68 = .ok (.ifCond .ne 7, 3) := by decide +kernel
theorem dX7_wander_71 : decode cX7_wander 71 = .ok (.iconst 1, 1) := by decide +kernel
theorem dX7_wander_72 : decode cX7_wander 72 = .ok (.goto 13, 3) := by decide +kernel
theorem dX7_wander_75 : decode cX7_wander 75 = .ok (.iload 4, 2) := by decide +kernel
theorem dX7_wander_77 : decode cX7_wander 77 = .ok (.ifCond .eq 7, 3) := by decide +kernel
theorem dX7_wander_80 : decode cX7_wander 80 = .ok (.iconst 0, 1) := by decide +kernel
theorem dX7_wander_81 : decode cX7_wander 81 = .ok (.goto 4, 3) := by decide +kernel
theorem dX7_wander_84 : decode cX7_wander 84 = .ok (.iconst 2, 1) := by decide +kernel
theorem dX7_wander_85 : decode cX7_wander 85 = .ok (.invokevirtual 141, 3) := by decide +kernel
theorem dX7_wander_88 : decode cX7_wander 88 = .ok (.ifCond .eq 5, 3) := by decide +kernel
theorem dX7_wander_91 : decode cX7_wander 91 = .ok (.iconst 0, 1) := by decide +kernel
theorem dX7_wander_92 : decode cX7_wander 92 = .ok (.ireturn, 1) := by decide +kernel
theorem dX7_wander_93 : decode cX7_wander 93 = .ok (.aload_n 0, 1) := by decide +kernel
theorem dX7_wander_94 : decode cX7_wander 94 = .ok (.iload_n 1, 1) := by decide +kernel
theorem dX7_wander_95 : decode cX7_wander 95 = .ok (.iload_n 2, 1) := by decide +kernel
theorem dX7_wander_96 : decode cX7_wander 96 = .ok (.iconst (-1), 1) := by decide +kernel
theorem dX7_wander_97 : decode cX7_wander 97 = .ok (.invokevirtual 167, 3) := by decide +kernel
theorem dX7_wander_100 : decode cX7_wander 100 = .ok (.aload_n 0, 1) := by decide +kernel
theorem dX7_wander_101 : decode cX7_wander 101 = .ok (.iload_n 1, 1) := by decide +kernel
theorem dX7_wander_102 : decode cX7_wander 102 = .ok (.invokevirtual 171, 3) := by decide +kernel
theorem dX7_wander_105 : decode cX7_wander 105 = .ok (.aload_n 0, 1) := by decide +kernel
theorem dX7_wander_106 : decode cX7_wander 106 = .ok (.getfield 45, 3) := by decide +kernel
theorem dX7_wander_109 : decode cX7_wander 109 = .ok (.iload_n 1, 1) := by decide +kernel
theorem dX7_wander_110 : decode cX7_wander 110 = .ok (.iaload, 1) := by decide +kernel
theorem dX7_wander_111 : decode cX7_wander 111 = .ok (.ireturn, 1) := by decide +kernel
set_option maxRecDepth 20000 in
theorem ggX7_cap_X7_in : GoodIn wsX7_cap wsX7_in := goodIn_r _ [5] (by decide +kernel) (by decide +kernel)
set_option maxRecDepth 20000 in
theorem gX7_cap_X7_in : GoodIn wsX7_cap (va_wsS RX7 123 yX7_in wsX7_in) := goodIn_app (goodIn_of _ (by decide +kernel)) ggX7_cap_X7_in
set_option maxRecDepth 20000 in
theorem ggX7_cap_X7_refused : GoodIn wsX7_cap wsX7_refused := goodIn_r _ [9, 10, 11, 12, 13, 14, 15, 16, 17, 18, 19, 20, 21, 22, 23, 24, 25, 26, 27, 28, 29, 30, 31, 32, 33, 34, 35, 36, 37, 38, 39, 40, 41, 42, 43, 44, 45, 46, 47, 48, 49, 50, 51, 52] (by decide +kernel) (by decide +kernel)
set_option maxRecDepth 20000 in
theorem gX7_cap_X7_refused : GoodIn wsX7_cap (wsV RX7 141 RX7 yX7_refused wsX7_refused) := goodIn_app (goodIn_of _ (by decide +kernel)) ggX7_cap_X7_refused
theorem dX7_cap_0 : decode cX7_cap 0 = .ok (.aload_n 0, 1) := by decide +kernel
theorem dX7_cap_1 : decode cX7_cap 1 = .ok (.iload_n 1, 1) := by decide +kernel
theorem dX7_cap_2 : decode cX7_cap 2 = .ok (.bipush 100, 2) := by decide +kernel
theorem dX7_cap_4 : decode cX7_cap 4 = .ok (.sipush 300, 3) := by decide +kernel
theorem dX7_cap_7 : decode cX7_cap 7 = .ok (.invokestatic 123, 3) := by decide +kernel
theorem dX7_cap_10 : decode cX7_cap 10 = .ok (.ifCond .eq 7, 3) := by decide +kernel
theorem dX7_cap_13 : decode cX7_cap 13 = .ok (.iconst 0, 1) := by decide +kernel
theorem dX7_cap_14 : decode cX7_cap 14 = .ok (.goto 4, 3) := by decide +kernel
theorem dX7_cap_17 : decode cX7_cap 17 = .ok (.iconst 1, 1) := by decide +kernel
theorem dX7_cap_18 : decode cX7_cap 18 = .ok (.invokevirtual 141, 3) := by decide +kernel
theorem dX7_cap_21 : decode cX7_cap 21 = .ok (.ifCond .eq 5, 3) := by decide +kernel
theorem dX7_cap_24 : decode cX7_cap 24 = .ok (.iconst 0, 1) := by decide +kernel
theorem dX7_cap_25 : decode cX7_cap 25 = .ok (.ireturn, 1) := by decide +kernel
theorem dX7_cap_26 : decode cX7_cap 26 = .ok (.aload_n 0, 1) := by decide +kernel
theorem dX7_cap_27 : decode cX7_cap 27 = .ok (.getfield 7, 3) := by decide +kernel
theorem dX7_cap_30 : decode cX7_cap 30 = .ok (.istore_n 2, 1) := by decide +kernel
theorem dX7_cap_31 : decode cX7_cap 31 = .ok (.aload_n 0, 1) := by decide +kernel
theorem dX7_cap_32 : decode cX7_cap 32 = .ok (.iload_n 1, 1) := by decide +kernel
theorem dX7_cap_33 : decode cX7_cap 33 = .ok (.putfield 7, 3) := by decide +kernel
theorem dX7_cap_36 : decode cX7_cap 36 = .ok (.iload_n 2, 1) := by decide +kernel
theorem dX7_cap_37 : decode cX7_cap 37 = .ok (.ireturn, 1) := by decide +kernel
set_option maxRecDepth 20000 in
theorem ggX7_heightOf_X7_isFree : GoodIn wsX7_heightOf wsX7_isFree := goodIn_r _ [11, 12, 13, 14, 15, 16, 17, 18, 19, 20, 21, 22, 23, 24, 25, 26, 27, 28, 29, 30, 31, 32, 33, 34, 35, 36, 37, 38, 39, 40, 41, 42, 43, 44, 45, 46, 47, 48, 49, 50, 51, 52, 53, 54, 55, 56] (by decide +kernel) (by decide +kernel)
set_option maxRecDepth 20000 in
theorem gX7_heightOf_X7_isFree : GoodIn wsX7_heightOf (wsV RX7 148 RX7 yX7_isFree wsX7_isFree) := goodIn_app (goodIn_of _ (by decide +kernel)) ggX7_heightOf_X7_isFree
theorem dX7_heightOf_0 : decode cX7_heightOf 0 = .ok (.bipush 100, 2) := by decide +kernel
theorem dX7_heightOf_2 : decode cX7_heightOf 2 = .ok (.istore_n 2, 1) := by decide +kernel
theorem dX7_heightOf_3 : decode cX7_heightOf 3 = .ok (.iconst 0, 1) := by decide +kernel
theorem dX7_heightOf_4 : decode cX7_heightOf 4 = .ok (.istore_n 3, 1) := by decide +kernel
theorem dX7_heightOf_5 : decode cX7_heightOf 5 = .ok (.iload_n 3, 1) := by decide +kernel
theorem dX7_heightOf_6 : decode cX7_heightOf 6 = .ok (.aload_n 0, 1) := by decide +kernel
theorem dX7_heightOf_7 : decode cX7_heightOf 7 = .ok (.getfield 130, 3) := by decide +kernel
theorem dX7_heightOf_10 : decode cX7_heightOf 10 = .ok (.if_icmp .ge 39, 3) := by decide +kernel
theorem dX7_heightOf_13 : decode cX7_heightOf 13 = .ok (.iload_n 2, 1) := by decide +kernel
theorem dX7_heightOf_14 : decode cX7_heightOf 14 = .ok (.aload_n 0, 1) := by decide +kernel
theorem dX7_heightOf_15 : decode cX7_heightOf 15 = .ok (.getfield 66, 3) := by decide +kernel
theorem dX7_heightOf_18 : decode cX7_heightOf 18 = .ok (.iload_n 3, 1) := by decide +kernel
theorem dX7_heightOf_19 : decode cX7_heightOf 19 = .ok (.iaload, 1) := by decide +kernel
theorem dX7_heightOf_20 : decode cX7_heightOf 20 = .ok (.ifCond .ne 20, 3) := by decide +kernel
theorem dX7_heightOf_23 : decode cX7_heightOf 23 = .ok (.aload_n 0, 1) := by decide +kernel
theorem dX7_heightOf_24 : decode cX7_heightOf 24 = .ok (.getfield 69, 3) := by decide +kernel
theorem dX7_heightOf_27 : decode cX7_heightOf 27 = .ok (.iload_n 3, 1) := by decide +kernel
theorem dX7_heightOf_28 : decode cX7_heightOf 28 = .ok (.iaload, 1) := by decide +kernel
theorem dX7_heightOf_29 : decode cX7_heightOf 29 = .ok (.iconst 3, 1) := by decide +kernel
theorem dX7_heightOf_30 : decode cX7_heightOf 30 = .ok (.idiv, 1) := by decide +kernel
theorem dX7_heightOf_31 : decode cX7_heightOf 31 = .ok (.iload_n 1, 1) := by decide +kernel
theorem dX7_heightOf_32 : decode cX7_heightOf 32 = .ok (.if_icmp .ne 8, 3) := by decide +kernel
theorem dX7_heightOf_35 : decode cX7_heightOf 35 = .ok (.bipush 25, 2) := by decide +kernel
theorem dX7_heightOf_37 : decode cX7_heightOf 37 = .ok (.goto 4, 3) := by decide +kernel
theorem dX7_heightOf_40 : decode cX7_heightOf 40 = .ok (.iconst 0, 1) := by decide +kernel
theorem dX7_heightOf_41 : decode cX7_heightOf 41 = .ok (.iadd, 1) := by decide +kernel
theorem dX7_heightOf_42 : decode cX7_heightOf 42 = .ok (.istore_n 2, 1) := by decide +kernel
theorem dX7_heightOf_43 : decode cX7_heightOf 43 = .ok (.iinc 3 1, 3) := by decide +kernel
theorem dX7_heightOf_46 : decode cX7_heightOf 46 = .ok (.goto (-41), 3) := by decide +kernel
theorem dX7_heightOf_49 : decode cX7_heightOf 49 = .ok (.iconst 0, 1) := by decide +kernel
theorem dX7_heightOf_50 : decode cX7_heightOf 50 = .ok (.istore_n 3, 1) := by decide +kernel
theorem dX7_heightOf_51 : decode cX7_heightOf 51 = .ok (.iload_n 3, 1) := by decide +kernel
theorem dX7_heightOf_52 : decode cX7_heightOf 52 = .ok (.aload_n 0, 1) := by decide +kernel
theorem dX7_heightOf_53 : decode cX7_heightOf 53 = .ok (.getfield 127, 3) := by decide +kernel
theorem dX7_heightOf_56 : decode cX7_heightOf 56 = .ok (.if_icmp .ge 38, 3) := by decide +kernel
theorem dX7_heightOf_59 : decode cX7_heightOf 59 = .ok (.iload_n 2, 1) := by decide +kernel
theorem dX7_heightOf_60 : decode cX7_heightOf 60 = .ok (.aload_n 0, 1) := by decide +kernel
theorem dX7_heightOf_61 : decode cX7_heightOf 61 = .ok (.iload_n 3, 1) := by decide +kernel
theorem dX7_heightOf_62 : decode cX7_heightOf 62 = .ok (.invokevirtual 148, 3) := by decide +kernel
theorem dX7_heightOf_65 : decode cX7_heightOf 65 = .ok (.ifCond .eq 20, 3) := by decide +kernel
theorem dX7_heightOf_68 : decode cX7_heightOf 68 = .ok (.aload_n 0, 1) := by decide +kernel
theorem dX7_heightOf_69 : decode cX7_heightOf 69 = .ok (.getfield 26, 3) := by decide +kernel
theorem dX7_heightOf_72 : decode cX7_heightOf 72 = .ok (.iload_n 3, 1) := by decide +kernel
theorem dX7_heightOf_73 : decode cX7_heightOf 73 = .ok (.iaload, 1) := by decide +kernel
theorem dX7_heightOf_74 : decode cX7_heightOf 74 = .ok (.iconst 3, 1) := by decide +kernel
theorem dX7_heightOf_75 : decode cX7_heightOf 75 = .ok (.idiv, 1) := by decide +kernel
theorem dX7_heightOf_76 : decode cX7_heightOf 76 = .ok (.iload_n 1, 1) := by decide +kernel
theorem dX7_heightOf_77 : decode cX7_heightOf 77 = .ok (.if_icmp .ne 8, 3) := by decide +kernel
theorem dX7_heightOf_80 : decode cX7_heightOf 80 = .ok (.bipush 25, 2) := by decide +kernel
theorem dX7_heightOf_82 : decode cX7_heightOf 82 = .ok (.goto 4, 3) := by decide +kernel
theorem dX7_heightOf_85 : decode cX7_heightOf 85 = .ok (.iconst 0, 1) := by decide +kernel
theorem dX7_heightOf_86 : decode cX7_heightOf 86 = .ok (.isub, 1) := by decide +kernel
theorem dX7_heightOf_87 : decode cX7_heightOf 87 = .ok (.istore_n 2, 1) := by decide +kernel
theorem dX7_heightOf_88 : decode cX7_heightOf 88 = .ok (.iinc 3 1, 3) := by decide +kernel
theorem dX7_heightOf_91 : decode cX7_heightOf 91 = .ok (.goto (-40), 3) := by decide +kernel
theorem dX7_heightOf_94 : decode cX7_heightOf 94 = .ok (.iload_n 2, 1) := by decide +kernel
theorem dX7_heightOf_95 : decode cX7_heightOf 95 = .ok (.bipush 100, 2) := by decide +kernel
theorem dX7_heightOf_97 : decode cX7_heightOf 97 = .ok (.if_icmp .ge 8, 3) := by decide +kernel
theorem dX7_heightOf_100 : decode cX7_heightOf 100 = .ok (.bipush 100, 2) := by decide +kernel
theorem dX7_heightOf_102 : decode cX7_heightOf 102 = .ok (.goto 4, 3) := by decide +kernel
theorem dX7_heightOf_105 : decode cX7_heightOf 105 = .ok (.iload_n 2, 1) := by decide +kernel
theorem dX7_heightOf_106 : decode cX7_heightOf 106 = .ok (.istore_n 2, 1) := by decide +kernel
theorem dX7_heightOf_107 : decode cX7_heightOf 107 = .ok (.iload_n 2, 1) := by decide +kernel
theorem dX7_heightOf_108 : decode cX7_heightOf 108 = .ok (.aload_n 0, 1) := by decide +kernel
theorem dX7_heightOf_109 : decode cX7_heightOf 109 = .ok (.getfield 7, 3) := by decide +kernel
theorem dX7_heightOf_112 : decode cX7_heightOf 112 = .ok (.if_icmp .le 10, 3) := by decide +kernel
theorem dX7_heightOf_115 : decode cX7_heightOf 115 = .ok (.aload_n 0, 1) := by decide +kernel
theorem dX7_heightOf_116 : decode cX7_heightOf 116 = .ok (.getfield 7, 3) := by decide +kernel
theorem dX7_heightOf_119 : decode cX7_heightOf 119 = .ok (.goto 4, 3) := by decide +kernel
theorem dX7_heightOf_122 : decode cX7_heightOf 122 = .ok (.iload_n 2, 1) := by decide +kernel
theorem dX7_heightOf_123 : decode cX7_heightOf 123 = .ok (.ireturn, 1) := by decide +kernel
set_option maxRecDepth 20000 in
theorem ggX7_height_X7_in : GoodIn wsX7_height wsX7_in := goodIn_r _ [4] (by decide +kernel) (by decide +kernel)
set_option maxRecDepth 20000 in
theorem gX7_height_X7_in : GoodIn wsX7_height (va_wsS RX7 123 yX7_in wsX7_in) := goodIn_app (goodIn_of _ (by decide +kernel)) ggX7_height_X7_in
set_option maxRecDepth 20000 in
theorem ggX7_height_X7_refused : GoodIn wsX7_height wsX7_refused := goodIn_r _ [8, 9, 27, 28, 29, 30, 31, 32, 33, 34, 35, 36, 37, 38, 39, 40, 41, 42, 43, 44, 45, 46, 47, 48, 49, 50, 51, 52, 53, 54, 55, 56, 57, 58, 59, 60, 61, 62, 63, 64, 65, 66, 67, 68] (by decide +kernel) (by decide +kernel)
set_option maxRecDepth 20000 in
theorem gX7_height_X7_refused : GoodIn wsX7_height (wsV RX7 141 RX7 yX7_refused wsX7_refused) := goodIn_app (goodIn_of _ (by decide +kernel)) ggX7_height_X7_refused
set_option maxRecDepth 20000 in
theorem ggX7_height_X7_heightOf : GoodIn wsX7_height wsX7_heightOf := goodIn_r _ [13, 14, 15, 16, 17, 18, 19, 20, 21, 22, 3, 23, 24, 25, 26, 27, 28, 29, 30, 31, 32, 33, 34, 35, 36, 37, 38, 39, 40, 41, 42, 43, 44, 45, 46, 47, 48, 49, 50, 51, 52, 53, 54, 55, 56, 57, 58, 59, 60, 61, 62, 63, 64, 65, 66, 67, 68] (by decide +kernel) (by decide +kernel)
set_option maxRecDepth 20000 in
theorem gX7_height_X7_heightOf : GoodIn wsX7_height (wsV RX7 174 RX7 yX7_heightOf wsX7_heightOf) := goodIn_app (goodIn_of _ (by decide +kernel)) ggX7_height_X7_heightOf
theorem dX7_height_0 : decode cX7_height 0 = .ok (.aload_n 0, 1) := by decide +kernel
theorem dX7_height_1 : decode cX7_height 1 = .ok (.iload_n 1, 1) := by decide +kernel
theorem dX7_height_2 : decode cX7_height 2 = .ok (.iconst 0, 1) := by decide +kernel
theorem dX7_height_3 : decode cX7_height 3 = .ok (.iconst 3, 1) := by decide +kernel
theorem dX7_height_4 : decode cX7_height 4 = .ok (.invokestatic 123, 3) := by decide +kernel
theorem dX7_height_7 : decode cX7_height 7 = .ok (.ifCond .eq 7, 3) := by decide +kernel
theorem dX7_height_10 : decode cX7_height 10 = .ok (.iconst 0, 1) := by decide +kernel
theorem dX7_height_11 : decode cX7_height 11 = .ok (.goto 4, 3) := by decide +kernel
theorem dX7_height_14 : decode cX7_height 14 = .ok (.iconst 1, 1) := by decide +kernel
theorem dX7_height_15 : decode cX7_height 15 = .ok (.invokevirtual 141, 3) := by decide +kernel
theorem dX7_height_18 : decode cX7_height 18 = .ok (.ifCond .eq 7, 3) := by decide +kernel
theorem dX7_height_21 : decode cX7_height 21 = .ok (.iconst 0, 1) := by decide +kernel
theorem dX7_height_22 : decode cX7_height 22 = .ok (.goto 8, 3) := by decide +kernel
theorem dX7_height_25 : decode cX7_height 25 = .ok (.aload_n 0, 1) := by decide +kernel
theorem dX7_height_26 : decode cX7_height 26 = .ok (.iload_n 1, 1) := by decide +kernel
theorem dX7_height_27 : decode cX7_height 27 = .ok (.invokevirtual 174, 3) := by decide +kernel
theorem dX7_height_30 : decode cX7_height 30 = .ok (.ireturn, 1) := by decide +kernel
set_option maxRecDepth 20000 in
theorem ggX7_request_X7_isPlace : GoodIn wsX7_request wsX7_isPlace := goodIn_r _ [15, 16, 17, 14, 18] (by decide +kernel) (by decide +kernel)
set_option maxRecDepth 20000 in
theorem gX7_request_X7_isPlace : GoodIn wsX7_request (va_wsS RX7 137 yX7_isPlace wsX7_isPlace) := goodIn_app (goodIn_of _ (by decide +kernel)) ggX7_request_X7_isPlace
set_option maxRecDepth 20000 in
theorem ggX7_request_X7_in : GoodIn wsX7_request wsX7_in := goodIn_r _ [18] (by decide +kernel) (by decide +kernel)
set_option maxRecDepth 20000 in
theorem gX7_request_X7_in : GoodIn wsX7_request (va_wsS RX7 123 yX7_in wsX7_in) := goodIn_app (goodIn_of _ (by decide +kernel)) ggX7_request_X7_in
set_option maxRecDepth 20000 in
theorem ggX7_request_X7_wayOf : GoodIn wsX7_request wsX7_wayOf := goodIn_r _ [22, 23, 44, 45, 46, 47, 48, 49, 50, 51, 52, 53, 54, 55, 56, 57, 58, 59, 60, 61, 62, 63, 64, 65, 66, 67, 68, 69, 70, 71, 72, 73, 74, 75, 76, 77, 78, 79, 80, 81, 82, 83, 84, 85] (by decide +kernel) (by decide +kernel)
set_option maxRecDepth 20000 in
theorem gX7_request_X7_wayOf : GoodIn wsX7_request (wsV RX7 144 RX7 yX7_wayOf wsX7_wayOf) := goodIn_app (goodIn_of _ (by decide +kernel)) ggX7_request_X7_wayOf
set_option maxRecDepth 20000 in
theorem ggX7_request_X7_refused : GoodIn wsX7_request wsX7_refused := goodIn_r _ [27, 28, 44, 45, 46, 47, 48, 49, 50, 51, 52, 53, 54, 55, 56, 57, 58, 59, 60, 61, 62, 63, 64, 65, 66, 67, 68, 69, 70, 71, 72, 73, 74, 75, 76, 77, 78, 79, 80, 81, 82, 83, 84, 85] (by decide +kernel) (by decide +kernel)
set_option maxRecDepth 20000 in
theorem gX7_request_X7_refused : GoodIn wsX7_request (wsV RX7 141 RX7 yX7_refused wsX7_refused) := goodIn_app (goodIn_of _ (by decide +kernel)) ggX7_request_X7_refused
set_option maxRecDepth 20000 in
theorem ggX7_request_X7_heightOf : GoodIn wsX7_request wsX7_heightOf := goodIn_r _ [32, 1, 33, 4, 34, 35, 36, 37, 38, 39, 14, 40, 41, 42, 43, 44, 45, 46, 47, 48, 49, 50, 51, 52, 53, 54, 55, 56, 57, 58, 59, 60, 61, 62, 63, 64, 65, 66, 67, 68, 69, 70, 71, 72, 73, 74, 75, 76, 77, 78, 79, 80, 81, 82, 83, 84, 85] (by decide +kernel) (by decide +kernel)
set_option maxRecDepth 20000 in
theorem gX7_request_X7_heightOf : GoodIn wsX7_request (wsV RX7 174 RX7 yX7_heightOf wsX7_heightOf) := goodIn_app (goodIn_of _ (by decide +kernel)) ggX7_request_X7_heightOf
theorem dX7_request_0 : decode cX7_request 0 = .ok (.iload_n 1, 1) := by decide +kernel
theorem dX7_request_1 : decode cX7_request 1 = .ok (.invokestatic 137, 3) := by decide +kernel
theorem dX7_request_4 : decode cX7_request 4 = .ok (.ifCond .eq 14, 3) := by decide +kernel
theorem dX7_request_7 : decode cX7_request 7 = .ok (.iload_n 2, 1) := by decide +kernel
theorem dX7_request_8 : decode cX7_request 8 = .ok (.invokestatic 137, 3) := by decide +kernel
theorem dX7_request_11 : decode cX7_request 11 = .ok (.ifCond .eq 7, 3) := by decide +kernel
theorem dX7_request_14 : decode cX7_request 14 = .ok (.iconst 1, 1) := by decide +kernel
theorem dX7_request_15 : decode cX7_request 15 = .ok (.goto 4, 3) := by decide +kernel
theorem dX7_request_18 : decode cX7_request 18 = .ok (.iconst 0, 1) := by decide +kernel
theorem dX7_request_19 : decode cX7_request 19 = .ok (.istore 5, 2) := by decide +kernel
theorem dX7_request_21 : decode cX7_request 21 = .ok (.iload_n 1, 1) := by decide +kernel
theorem dX7_request_22 : decode cX7_request 22 = .ok (.iload_n 2, 1) := by decide +kernel
theorem dX7_request_23 : decode cX7_request 23 = .ok (.if_icmp .eq 17, 3) := by decide +kernel
theorem dX7_request_26 : decode cX7_request 26 = .ok (.iload_n 3, 1) := by decide +kernel
theorem dX7_request_27 : decode cX7_request 27 = .ok (.iconst 1, 1) := by decide +kernel
theorem dX7_request_28 : decode cX7_request 28 = .ok (.bipush 60, 2) := by decide +kernel
theorem dX7_request_30 : decode cX7_request 30 = .ok (.invokestatic 123, 3) := by decide +kernel
theorem dX7_request_33 : decode cX7_request 33 = .ok (.ifCond .eq 7, 3) := by decide +kernel
theorem dX7_request_36 : decode cX7_request 36 = .ok (.iconst 1, 1) := by decide +kernel
theorem dX7_request_37 : decode cX7_request 37 = .ok (.goto 4, 3) := by decide +kernel
theorem dX7_request_40 : decode cX7_request 40 = .ok (.iconst 0, 1) := by decide +kernel
theorem dX7_request_41 : decode cX7_request 41 = .ok (.istore 6, 2) := by decide +kernel
theorem dX7_request_43 : decode cX7_request 43 = .ok (.aload_n 0, 1) := by decide +kernel
theorem dX7_request_44 : decode cX7_request 44 = .ok (.iload 5, 2) := by decide +kernel
theorem dX7_request_46 : decode cX7_request 46 = .ok (.ifCond .ne 7, 3) := by decide +kernel
theorem dX7_request_49 : decode cX7_request 49 = .ok (.iconst 1, 1) := by decide +kernel
theorem dX7_request_50 : decode cX7_request 50 = .ok (.goto 37, 3) := by decide +kernel
theorem dX7_request_53 : decode cX7_request 53 = .ok (.iload 6, 2) := by decide +kernel
theorem dX7_request_55 : decode cX7_request 55 = .ok (.ifCond .ne 7, 3) := by decide +kernel
theorem dX7_request_58 : decode cX7_request 58 = .ok (.iconst 2, 1) := by decide +kernel
theorem dX7_request_59 : decode cX7_request 59 = .ok (.goto 28, 3) := by decide +kernel
theorem dX7_request_62 : decode cX7_request 62 = .ok (.aload_n 0, 1) := by decide +kernel
theorem dX7_request_63 : decode cX7_request 63 = .ok (.getfield 130, 3) := by decide +kernel
theorem dX7_request_66 : decode cX7_request 66 = .ok (.bipush 60, 2) := by decide +kernel
theorem dX7_request_68 : decode cX7_request 68 = .ok (.if_icmp .eq 14, 3) := by decide +kernel
theorem dX7_request_71 : decode cX7_request 71 = .ok (.aload_n 0, 1) := by decide +kernel
theorem dX7_request_72 : decode cX7_request 72 = .ok (.iload_n 1, 1) := by decide +kernel
theorem dX7_request_73 : decode cX7_request 73 = .ok (.iload_n 2, 1) := by decide +kernel
theorem dX7_request_74 : decode cX7_request 74 = .ok (.invokevirtual 144, 3) := by decide +kernel
theorem dX7_request_77 : decode cX7_request 77 = .ok (.ldc 133, 2) := by decide +kernel
theorem dX7_request_79 : decode cX7_request 79 = .ok (.if_icmp .lt 7, 3) := by decide +kernel
theorem dX7_request_82 : decode cX7_request 82 = .ok (.iconst 3, 1) := by decide +kernel
theorem dX7_request_83 : decode cX7_request 83 = .ok (.goto 4, 3) := by decide +kernel
theorem dX7_request_86 : decode cX7_request 86 = .ok (.iconst 0, 1) := by decide +kernel
theorem dX7_request_87 : decode cX7_request 87 = .ok (.invokevirtual 141, 3) := by decide +kernel
theorem dX7_request_90 : decode cX7_request 90 = .ok (.ifCond .eq 5, 3) := by decide +kernel
theorem dX7_request_93 : decode cX7_request 93 = .ok (.iconst 0, 1) := by decide +kernel
theorem dX7_request_94 : decode cX7_request 94 = .ok (.ireturn, 1) := by decide +kernel
theorem dX7_request_95 : decode cX7_request 95 = .ok (.aload_n 0, 1) := by decide +kernel
theorem dX7_request_96 : decode cX7_request 96 = .ok (.getfield 81, 3) := by decide +kernel
theorem dX7_request_99 : decode cX7_request 99 = .ok (.aload_n 0, 1) := by decide +kernel
theorem dX7_request_100 : decode cX7_request 100 = .ok (.getfield 130, 3) := by decide +kernel
theorem dX7_request_103 : decode cX7_request 103 = .ok (.sipush 300, 3) := by decide +kernel
theorem dX7_request_106 : decode cX7_request 106 = .ok (.bipush 40, 2) := by decide +kernel
theorem dX7_request_108 : decode cX7_request 108 = .ok (.aload_n 0, 1) := by decide +kernel
theorem dX7_request_109 : decode cX7_request 109 = .ok (.iload_n 1, 1) := by decide +kernel
theorem dX7_request_110 : decode cX7_request 110 = .ok (.iload_n 2, 1) := by decide +kernel
theorem dX7_request_111 : decode cX7_request 111 = .ok (.invokevirtual 144, 3) := by decide +kernel
theorem dX7_request_114 : decode cX7_request 114 = .ok (.imul, 1) := by decide +kernel
theorem dX7_request_115 : decode cX7_request 115 = .ok (.iadd, 1) := by decide +kernel
theorem dX7_request_116 : decode cX7_request 116 = .ok (.aload_n 0, 1) := by decide +kernel
theorem dX7_request_117 : decode cX7_request 117 = .ok (.iload_n 1, 1) := by decide +kernel
theorem dX7_request_118 : decode cX7_request 118 = .ok (.iconst 3, 1) := by decide +kernel
theorem dX7_request_119 : decode cX7_request 119 = .ok (.idiv, 1) := by decide +kernel
theorem dX7_request_120 : decode cX7_request 120 = .ok (.invokevirtual 174, 3) := by decide +kernel
theorem dX7_request_123 : decode cX7_request 123 = .ok (.imul, 1) := by decide +kernel
theorem dX7_request_124 : decode cX7_request 124 = .ok (.bipush 100, 2) := by decide +kernel
theorem dX7_request_126 : decode cX7_request 126 = .ok (.idiv, 1) := by decide +kernel
theorem dX7_request_127 : decode cX7_request 127 = .ok (.iastore, 1) := by decide +kernel
theorem dX7_request_128 : decode cX7_request 128 = .ok (.aload_n 0, 1) := by decide +kernel
theorem dX7_request_129 : decode cX7_request 129 = .ok (.getfield 69, 3) := by decide +kernel
theorem dX7_request_132 : decode cX7_request 132 = .ok (.aload_n 0, 1) := by decide +kernel
theorem dX7_request_133 : decode cX7_request 133 = .ok (.getfield 130, 3) := by decide +kernel
theorem dX7_request_136 : decode cX7_request 136 = .ok (.iload_n 1, 1) := by decide +kernel
theorem dX7_request_137 : decode cX7_request 137 = .ok (.iastore, 1) := by decide +kernel
theorem dX7_request_138 : decode cX7_request 138 = .ok (.aload_n 0, 1) := by decide +kernel
theorem dX7_request_139 : decode cX7_request 139 = .ok (.getfield 72, 3) := by decide +kernel
theorem dX7_request_142 : decode cX7_request 142 = .ok (.aload_n 0, 1) := by decide +kernel
theorem dX7_request_143 : decode cX7_request 143 = .ok (.getfield 130, 3) := by decide +kernel
theorem dX7_request_146 : decode cX7_request 146 = .ok (.iload_n 2, 1) := by decide +kernel
theorem dX7_request_147 : decode cX7_request 147 = .ok (.iastore, 1) := by decide +kernel
theorem dX7_request_148 : decode cX7_request 148 = .ok (.aload_n 0, 1) := by decide +kernel
theorem dX7_request_149 : decode cX7_request 149 = .ok (.getfield 75, 3) := by decide +kernel
theorem dX7_request_152 : decode cX7_request 152 = .ok (.aload_n 0, 1) := by decide +kernel
theorem dX7_request_153 : decode cX7_request 153 = .ok (.getfield 130, 3) := by decide +kernel
theorem dX7_request_156 : decode cX7_request 156 = .ok (.aload_n 0, 1) := by decide +kernel
theorem dX7_request_157 : decode cX7_request 157 = .ok (.getfield 161, 3) := by decide +kernel
theorem dX7_request_160 : decode cX7_request 160 = .ok (.iload_n 3, 1) := by decide +kernel
theorem dX7_request_161 : decode cX7_request 161 = .ok (.iadd, 1) := by decide +kernel
theorem dX7_request_162 : decode cX7_request 162 = .ok (.iastore, 1) := by decide +kernel
theorem dX7_request_163 : decode cX7_request 163 = .ok (.aload_n 0, 1) := by decide +kernel
theorem dX7_request_164 : decode cX7_request 164 = .ok (.getfield 78, 3) := by decide +kernel
theorem dX7_request_167 : decode cX7_request 167 = .ok (.aload_n 0, 1) := by decide +kernel
theorem dX7_request_168 : decode cX7_request 168 = .ok (.getfield 130, 3) := by decide +kernel
theorem dX7_request_171 : decode cX7_request 171 = .ok (.iload 4, 2) := by decide +kernel
theorem dX7_request_173 : decode cX7_request 173 = .ok (.bastore, 1) := by decide +kernel
theorem dX7_request_174 : decode cX7_request 174 = .ok (.aload_n 0, 1) := by decide +kernel
theorem dX7_request_175 : decode cX7_request 175 = .ok (.getfield 84, 3) := by decide +kernel
theorem dX7_request_178 : decode cX7_request 178 = .ok (.aload_n 0, 1) := by decide +kernel
theorem dX7_request_179 : decode cX7_request 179 = .ok (.getfield 130, 3) := by decide +kernel
theorem dX7_request_182 : decode cX7_request 182 = .ok (.iconst (-1), 1) := by decide +kernel
theorem dX7_request_183 : decode cX7_request 183 = .ok (.iastore, 1) := by decide +kernel
theorem dX7_request_184 : decode cX7_request 184 = .ok (.aload_n 0, 1) := by decide +kernel
theorem dX7_request_185 : decode cX7_request 185 = .ok (.getfield 87, 3) := by decide +kernel
theorem dX7_request_188 : decode cX7_request 188 = .ok (.aload_n 0, 1) := by decide +kernel
theorem dX7_request_189 : decode cX7_request 189 = .ok (.getfield 130, 3) := by decide +kernel
theorem dX7_request_192 : decode cX7_request 192 = .ok (.iconst (-1), 1) := by decide +kernel
theorem dX7_request_193 : decode cX7_request 193 = .ok (.iastore, 1) := by decide +kernel
theorem dX7_request_194 : decode cX7_request 194 = .ok (.aload_n 0, 1) := by decide +kernel
theorem dX7_request_195 : decode cX7_request 195 = .ok (.getfield 90, 3) := by decide +kernel
theorem dX7_request_198 : decode cX7_request 198 = .ok (.aload_n 0, 1) := by decide +kernel
theorem dX7_request_199 : decode cX7_request 199 = .ok (.getfield 130, 3) := by decide +kernel
theorem dX7_request_202 : decode cX7_request 202 = .ok (.iconst (-1), 1) := by decide +kernel
theorem dX7_request_203 : decode cX7_request 203 = .ok (.iastore, 1) := by decide +kernel
theorem dX7_request_204 : decode cX7_request 204 = .ok (.aload_n 0, 1) := by decide +kernel
theorem dX7_request_205 : decode cX7_request 205 = .ok (.dup, 1) := by decide +kernel
theorem dX7_request_206 : decode cX7_request 206 = .ok (.getfield 130, 3) := by decide +kernel
theorem dX7_request_209 : decode cX7_request 209 = .ok (.iconst 1, 1) := by decide +kernel
theorem dX7_request_210 : decode cX7_request 210 = .ok (.iadd, 1) := by decide +kernel
theorem dX7_request_211 : decode cX7_request 211 = .ok (.putfield 130, 3) := by decide +kernel
theorem dX7_request_214 : decode cX7_request 214 = .ok (.aload_n 0, 1) := by decide +kernel
theorem dX7_request_215 : decode cX7_request 215 = .ok (.getfield 130, 3) := by decide +kernel
theorem dX7_request_218 : decode cX7_request 218 = .ok (.iconst 1, 1) := by decide +kernel
theorem dX7_request_219 : decode cX7_request 219 = .ok (.isub, 1) := by decide +kernel
theorem dX7_request_220 : decode cX7_request 220 = .ok (.ireturn, 1) := by decide +kernel
set_option maxRecDepth 20000 in
theorem ggX7_cancel_X7_isRequest : GoodIn wsX7_cancel wsX7_isRequest := goodIn_r _ [12, 13, 14, 15, 11, 16, 22, 23, 24, 25, 26, 27, 28, 29, 30, 31, 32, 33, 34, 35, 36, 37, 38, 39, 40, 41, 42, 43, 44, 45, 46, 47, 48, 49, 50, 51, 52, 53, 54, 55, 56, 57, 58, 59, 60, 61, 62, 63] (by decide +kernel) (by decide +kernel)
set_option maxRecDepth 20000 in
theorem gX7_cancel_X7_isRequest : GoodIn wsX7_cancel (wsV RX7 178 RX7 yX7_isRequest wsX7_isRequest) := goodIn_app (goodIn_of _ (by decide +kernel)) ggX7_cancel_X7_isRequest
set_option maxRecDepth 20000 in
theorem ggX7_cancel_X7_in : GoodIn wsX7_cancel wsX7_in := goodIn_r _ [16] (by decide +kernel) (by decide +kernel)
set_option maxRecDepth 20000 in
theorem gX7_cancel_X7_in : GoodIn wsX7_cancel (va_wsS RX7 123 yX7_in wsX7_in) := goodIn_app (goodIn_of _ (by decide +kernel)) ggX7_cancel_X7_in
set_option maxRecDepth 20000 in
theorem ggX7_cancel_X7_refused : GoodIn wsX7_cancel wsX7_refused := goodIn_r _ [20, 21, 22, 23, 24, 25, 26, 27, 28, 29, 30, 31, 32, 33, 34, 35, 36, 37, 38, 39, 40, 41, 42, 43, 44, 45, 46, 47, 48, 49, 50, 51, 52, 53, 54, 55, 56, 57, 58, 59, 60, 61, 62, 63] (by decide +kernel) (by decide +kernel)
set_option maxRecDepth 20000 in
theorem gX7_cancel_X7_refused : GoodIn wsX7_cancel (wsV RX7 141 RX7 yX7_refused wsX7_refused) := goodIn_app (goodIn_of _ (by decide +kernel)) ggX7_cancel_X7_refused
theorem dX7_cancel_0 : decode cX7_cancel 0 = .ok (.aload_n 0, 1) := by decide +kernel
theorem dX7_cancel_1 : decode cX7_cancel 1 = .ok (.iload_n 1, 1) := by decide +kernel
theorem dX7_cancel_2 : decode cX7_cancel 2 = .ok (.invokevirtual 178, 3) := by decide +kernel
theorem dX7_cancel_5 : decode cX7_cancel 5 = .ok (.istore_n 2, 1) := by decide +kernel
theorem dX7_cancel_6 : decode cX7_cancel 6 = .ok (.aload_n 0, 1) := by decide +kernel
theorem dX7_cancel_7 : decode cX7_cancel 7 = .ok (.iload_n 2, 1) := by decide +kernel
theorem dX7_cancel_8 : decode cX7_cancel 8 = .ok (.ifCond .ne 7, 3) := by decide +kernel
theorem dX7_cancel_11 : decode cX7_cancel 11 = .ok (.iconst 1, 1) := by decide +kernel
theorem dX7_cancel_12 : decode cX7_cancel 12 = .ok (.goto 22, 3) := by decide +kernel
theorem dX7_cancel_15 : decode cX7_cancel 15 = .ok (.aload_n 0, 1) := by decide +kernel
theorem dX7_cancel_16 : decode cX7_cancel 16 = .ok (.getfield 66, 3) := by decide +kernel
theorem dX7_cancel_19 : decode cX7_cancel 19 = .ok (.iload_n 1, 1) := by decide +kernel
theorem dX7_cancel_20 : decode cX7_cancel 20 = .ok (.iaload, 1) := by decide +kernel
theorem dX7_cancel_21 : decode cX7_cancel 21 = .ok (.iconst 0, 1) := by decide +kernel
theorem dX7_cancel_22 : decode cX7_cancel 22 = .ok (.iconst 1, 1) := by decide +kernel
theorem dX7_cancel_23 : decode cX7_cancel 23 = .ok (.invokestatic 123, 3) := by decide +kernel
theorem dX7_cancel_26 : decode cX7_cancel 26 = .ok (.ifCond .ne 7, 3) := by decide +kernel
theorem dX7_cancel_29 : decode cX7_cancel 29 = .ok (.iconst 2, 1) := by decide +kernel
theorem dX7_cancel_30 : decode cX7_cancel 30 = .ok (.goto 4, 3) := by decide +kernel
theorem dX7_cancel_33 : decode cX7_cancel 33 = .ok (.iconst 0, 1) := by decide +kernel
theorem dX7_cancel_34 : decode cX7_cancel 34 = .ok (.invokevirtual 141, 3) := by decide +kernel
theorem dX7_cancel_37 : decode cX7_cancel 37 = .ok (.ifCond .eq 5, 3) := by decide +kernel
theorem dX7_cancel_40 : decode cX7_cancel 40 = .ok (.iconst 0, 1) := by decide +kernel
theorem dX7_cancel_41 : decode cX7_cancel 41 = .ok (.ireturn, 1) := by decide +kernel
theorem dX7_cancel_42 : decode cX7_cancel 42 = .ok (.iconst 0, 1) := by decide +kernel
theorem dX7_cancel_43 : decode cX7_cancel 43 = .ok (.istore_n 3, 1) := by decide +kernel
theorem dX7_cancel_44 : decode cX7_cancel 44 = .ok (.aload_n 0, 1) := by decide +kernel
theorem dX7_cancel_45 : decode cX7_cancel 45 = .ok (.getfield 66, 3) := by decide +kernel
theorem dX7_cancel_48 : decode cX7_cancel 48 = .ok (.iload_n 1, 1) := by decide +kernel
theorem dX7_cancel_49 : decode cX7_cancel 49 = .ok (.iaload, 1) := by decide +kernel
theorem dX7_cancel_50 : decode cX7_cancel 50 = .ok (.iconst 1, 1) := by decide +kernel
theorem dX7_cancel_51 : decode cX7_cancel 51 = .ok (.if_icmp .ne 149, 3) := by decide +kernel
theorem dX7_cancel_54 : decode cX7_cancel 54 = .ok (.aload_n 0, 1) := by decide +kernel
theorem dX7_cancel_55 : decode cX7_cancel 55 = .ok (.getfield 161, 3) := by decide +kernel
theorem dX7_cancel_58 : decode cX7_cancel 58 = .ok (.aload_n 0, 1) := by decide +kernel
theorem dX7_cancel_59 : decode cX7_cancel 59 = .ok (.getfield 93, 3) := by decide +kernel
theorem dX7_cancel_62 : decode cX7_cancel 62 = .ok (.iload_n 1, 1) := by decide +kernel
theorem dX7_cancel_63 : decode cX7_cancel 63 = .ok (.iaload, 1) := by decide +kernel
theorem dX7_cancel_64 : decode cX7_cancel 64 = .ok (.isub, 1) := by decide +kernel
theorem dX7_cancel_65 : decode cX7_cancel 65 = .ok (.iconst 2, 1) := by decide +kernel
theorem dX7_cancel_66 : decode cX7_cancel 66 = .ok (.if_icmp .le 9, 3) := by decide +kernel
theorem dX7_cancel_69 : decode cX7_cancel 69 = .ok (.sipush 500, 3) := by decide +kernel
theorem dX7_cancel_72 : decode cX7_cancel 72 = .ok (.goto 4, 3) := by decide +kernel
theorem dX7_cancel_75 : decode cX7_cancel 75 = .ok (.iconst 0, 1) := by decide +kernel
theorem dX7_cancel_76 : decode cX7_cancel 76 = .ok (.istore_n 3, 1) := by decide +kernel
theorem dX7_cancel_77 : decode cX7_cancel 77 = .ok (.aload_n 0, 1) := by decide +kernel
theorem dX7_cancel_78 : decode cX7_cancel 78 = .ok (.getfield 84, 3) := by decide +kernel
theorem dX7_cancel_81 : decode cX7_cancel 81 = .ok (.iload_n 1, 1) := by decide +kernel
theorem dX7_cancel_82 : decode cX7_cancel 82 = .ok (.iaload, 1) := by decide +kernel
theorem dX7_cancel_83 : decode cX7_cancel 83 = .ok (.istore 4, 2) := by decide +kernel
theorem dX7_cancel_85 : decode cX7_cancel 85 = .ok (.iconst 0, 1) := by decide +kernel
theorem dX7_cancel_86 : decode cX7_cancel 86 = .ok (.istore 5, 2) := by decide +kernel
theorem dX7_cancel_88 : decode cX7_cancel 88 = .ok (.bipush 8, 2) := by decide +kernel
theorem dX7_cancel_90 : decode cX7_cancel 90 = .ok (.iload 4, 2) := by decide +kernel
theorem dX7_cancel_92 : decode cX7_cancel 92 = .ok (.imul, 1) := by decide +kernel
theorem dX7_cancel_93 : decode cX7_cancel 93 = .ok (.istore 6, 2) := by decide +kernel
theorem dX7_cancel_95 : decode cX7_cancel 95 = .ok (.iload 6, 2) := by decide +kernel
theorem dX7_cancel_97 : decode cX7_cancel 97 = .ok (.bipush 8, 2) := by decide +kernel
theorem dX7_cancel_99 : decode cX7_cancel 99 = .ok (.iload 4, 2) := by decide +kernel
theorem dX7_cancel_101 : decode cX7_cancel 101 = .ok (.imul, 1) := by decide +kernel
theorem dX7_cancel_102 : decode cX7_cancel 102 = .ok (.aload_n 0, 1) := by decide +kernel
theorem dX7_cancel_103 : decode cX7_cancel 103 = .ok (.getfield 36, 3) := by decide +kernel
theorem dX7_cancel_106 : decode cX7_cancel 106 = .ok (.iload 4, 2) := by decide +kernel
theorem dX7_cancel_108 : decode cX7_cancel 108 = .ok (.iaload, 1) := by decide +kernel
theorem dX7_cancel_109 : decode cX7_cancel 109 = .ok (.iadd, 1) := by decide +kernel
theorem dX7_cancel_110 : decode cX7_cancel 110 = .ok (.if_icmp .ge 81, 3) := by decide +kernel
theorem dX7_cancel_113 : decode cX7_cancel 113 = .ok (.aload_n 0, 1) := by decide +kernel
theorem dX7_cancel_114 : decode cX7_cancel 114 = .ok (.getfield 42, 3) := by decide +kernel
theorem dX7_cancel_117 : decode cX7_cancel 117 = .ok (.iload 6, 2) := by decide +kernel
theorem dX7_cancel_119 : decode cX7_cancel 119 = .ok (.iaload, 1) := by decide +kernel
theorem dX7_cancel_120 : decode cX7_cancel 120 = .ok (.bipush 100, 2) := by decide +kernel
theorem dX7_cancel_122 : decode cX7_cancel 122 = .ok (.iload_n 1, 1) := by decide +kernel
theorem dX7_cancel_123 : decode cX7_cancel 123 = .ok (.iadd, 1) := by decide +kernel
theorem dX7_cancel_124 : decode cX7_cancel 124 = .ok (.if_icmp .eq 61, 3) := by decide +kernel
theorem dX7_cancel_127 : decode cX7_cancel 127 = .ok (.aload_n 0, 1) := by decide +kernel
theorem dX7_cancel_128 : decode cX7_cancel 128 = .ok (.getfield 39, 3) := by decide +kernel
theorem dX7_cancel_131 : decode cX7_cancel 131 = .ok (.bipush 8, 2) := by decide +kernel
theorem dX7_cancel_133 : decode cX7_cancel 133 = .ok (.iload 4, 2) := by decide +kernel
theorem dX7_cancel_135 : decode cX7_cancel 135 = .ok (.imul, 1) := by decide +kernel
theorem dX7_cancel_136 : decode cX7_cancel 136 = .ok (.iload 5, 2) := by decide +kernel
theorem dX7_cancel_138 : decode cX7_cancel 138 = .ok (.iadd, 1) := by decide +kernel
theorem dX7_cancel_139 : decode cX7_cancel 139 = .ok (.aload_n 0, 1) := by decide +kernel
theorem dX7_cancel_140 : decode cX7_cancel 140 = .ok (.getfield 39, 3) := by decide +kernel
theorem dX7_cancel_143 : decode cX7_cancel 143 = .ok (.iload 6, 2) := by decide +kernel
theorem dX7_cancel_145 : decode cX7_cancel 145 = .ok (.iaload, 1) := by decide +kernel
theorem dX7_cancel_146 : decode cX7_cancel 146 = .ok (.iastore, 1) := by decide +kernel
theorem dX7_cancel_147 : decode cX7_cancel 147 = .ok (.aload_n 0, 1) := by decide +kernel
theorem dX7_cancel_148 : decode cX7_cancel 148 = .ok (.getfield 42, 3) := by decide +kernel
theorem dX7_cancel_151 : decode cX7_cancel 151 = .ok (.bipush 8, 2) := by decide +kernel
theorem dX7_cancel_153 : decode cX7_cancel 153 = .ok (.iload 4, 2) := by decide +kernel
theorem dX7_cancel_155 : decode cX7_cancel 155 = .ok (.imul, 1) := by decide +kernel
theorem dX7_cancel_156 : decode cX7_cancel 156 = .ok (.iload 5, 2) := by decide +kernel
theorem dX7_cancel_158 : decode cX7_cancel 158 = .ok (.iadd, 1) := by decide +kernel
theorem dX7_cancel_159 : decode cX7_cancel 159 = .ok (.aload_n 0, 1) := by decide +kernel
theorem dX7_cancel_160 : decode cX7_cancel 160 = .ok (.getfield 42, 3) := by decide +kernel
theorem dX7_cancel_163 : decode cX7_cancel 163 = .ok (.iload 6, 2) := by decide +kernel
theorem dX7_cancel_165 : decode cX7_cancel 165 = .ok (.iaload, 1) := by decide +kernel
theorem dX7_cancel_166 : decode cX7_cancel 166 = .ok (.iload_n 1, 1) := by decide +kernel
theorem dX7_cancel_167 : decode cX7_cancel 167 = .ok (.if_icmp .ne 7, 3) := by decide +kernel
theorem dX7_cancel_170 : decode cX7_cancel 170 = .ok (.iconst (-1), 1) := by decide +kernel
theorem dX7_cancel_171 : decode cX7_cancel 171 = .ok (.goto 10, 3) := by decide +kernel
theorem dX7_cancel_174 : decode cX7_cancel 174 = .ok (.aload_n 0, 1) := by decide +kernel
theorem dX7_cancel_175 : decode cX7_cancel 175 = .ok (.getfield 42, 3) := by decide +kernel
theorem dX7_cancel_178 : decode cX7_cancel 178 = .ok (.iload 6, 2) := by decide +kernel
theorem dX7_cancel_180 : decode cX7_cancel 180 = .ok (.iaload, 1) := by decide +kernel
theorem dX7_cancel_181 : decode cX7_cancel 181 = .ok (.iastore, 1) := by decide +kernel
theorem dX7_cancel_182 : decode cX7_cancel 182 = .ok (.iinc 5 1, 3) := by decide +kernel
theorem dX7_cancel_185 : decode cX7_cancel 185 = .ok (.iinc 6 1, 3) := by decide +kernel
