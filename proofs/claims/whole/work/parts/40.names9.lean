set_option maxRecDepth 20000 in
theorem ggX9_init_X9_clearTold : GoodIn wsX9_init wsX9_clearTold := goodIn_r _ [31, 32, 33, 26, 52, 53, 54, 55, 56, 57, 58, 59, 60, 61, 62, 63, 64, 65, 66, 67, 68, 69, 70, 71, 72, 73, 74, 75, 76, 77, 78, 79, 80, 81, 82, 83, 84, 85, 86, 87] (by decide +kernel) (by decide +kernel)
set_option maxRecDepth 20000 in
theorem gX9_init_X9_clearTold : GoodIn wsX9_init (wsV RX9 73 RX9 yX9_clearTold wsX9_clearTold) := goodIn_app (goodIn_of _ (by decide +kernel)) ggX9_init_X9_clearTold
set_option maxRecDepth 20000 in
theorem ggX9_init_X9_tellsGuest : GoodIn wsX9_init wsX9_tellsGuest := goodIn_r _ [37, 15, 32, 16, 52, 53, 54, 55, 56, 57, 58, 59, 60, 61, 62, 63, 64, 65, 66, 67, 68, 69, 70, 71, 72, 73, 74, 75, 76, 77, 78, 79, 80, 81, 82, 83, 84, 85, 86, 87] (by decide +kernel) (by decide +kernel)
set_option maxRecDepth 20000 in
theorem gX9_init_X9_tellsGuest : GoodIn wsX9_init (wsV RX9 76 RX9 yX9_tellsGuest wsX9_tellsGuest) := goodIn_app (goodIn_of _ (by decide +kernel)) ggX9_init_X9_tellsGuest
set_option maxRecDepth 20000 in
theorem ggX9_init_X9_tellsWish : GoodIn wsX9_init wsX9_tellsWish := goodIn_r _ [41, 17, 33, 18, 19, 52, 53, 54, 55, 56, 57, 58, 59, 60, 61, 62, 63, 64, 65, 66, 67, 68, 69, 70, 71, 72, 73, 74, 75, 76, 77, 78, 79, 80, 81, 82, 83, 84, 85, 86, 87] (by decide +kernel) (by decide +kernel)
set_option maxRecDepth 20000 in
theorem gX9_init_X9_tellsWish : GoodIn wsX9_init (wsV RX9 80 RX9 yX9_tellsWish wsX9_tellsWish) := goodIn_app (goodIn_of _ (by decide +kernel)) ggX9_init_X9_tellsWish
set_option maxRecDepth 20000 in
theorem ggX9_init_X9_settles : GoodIn wsX9_init wsX9_settles := goodIn_r _ [45, 32, 46, 33, 47, 26, 48, 5, 15, 9, 16, 6, 17, 7, 18, 8, 19, 49, 50, 51, 52, 53, 54, 55, 56, 57, 58, 59, 60, 61, 62, 63, 64, 65, 66, 67, 68, 69, 70, 71, 72, 73, 74, 75, 76, 77, 78, 79, 80, 81, 82, 83, 84, 85, 86, 87] (by decide +kernel) (by decide +kernel)
set_option maxRecDepth 20000 in
theorem gX9_init_X9_settles : GoodIn wsX9_init (wsV RX9 88 RX9 yX9_settles wsX9_settles) := goodIn_app (goodIn_of _ (by decide +kernel)) ggX9_init_X9_settles
theorem dX9_init_0 : decode cX9_init 0 = .ok (.aload_n 0, 1) := by decide +kernel
theorem dX9_init_1 : decode cX9_init 1 = .ok (.invokespecial 1, 3) := by decide +kernel
theorem dX9_init_4 : decode cX9_init 4 = .ok (.aload_n 0, 1) := by decide +kernel
theorem dX9_init_5 : decode cX9_init 5 = .ok (.bipush 6, 2) := by decide +kernel
theorem dX9_init_7 : decode cX9_init 7 = .ok (.newarray .int, 2) := by decide +kernel
theorem dX9_init_9 : decode cX9_init 9 = .ok (.putfield 7, 3) := by decide +kernel
theorem dX9_init_12 : decode cX9_init 12 = .ok (.aload_n 0, 1) := by decide +kernel
theorem dX9_init_13 : decode cX9_init 13 = .ok (.bipush 9, 2) := by decide +kernel
theorem dX9_init_15 : decode cX9_init 15 = .ok (.newarray .int, 2) := by decide +kernel
theorem dX9_init_17 : decode cX9_init 17 = .ok (.putfield 13, 3) := by decide +kernel
theorem dX9_init_20 : decode cX9_init 20 = .ok (.aload_n 0, 1) := by decide +kernel
theorem dX9_init_21 : decode cX9_init 21 = .ok (.bipush 9, 2) := by decide +kernel
theorem dX9_init_23 : decode cX9_init 23 = .ok (.newarray .int, 2) := by decide +kernel
theorem dX9_init_25 : decode cX9_init 25 = .ok (.putfield 16, 3) := by decide +kernel
theorem dX9_init_28 : decode cX9_init 28 = .ok (.aload_n 0, 1) := by decide +kernel
theorem dX9_init_29 : decode cX9_init 29 = .ok (.bipush 9, 2) := by decide +kernel
theorem dX9_init_31 : decode cX9_init 31 = .ok (.newarray .int, 2) := by decide +kernel
theorem dX9_init_33 : decode cX9_init 33 = .ok (.putfield 19, 3) := by decide +kernel
theorem dX9_init_36 : decode cX9_init 36 = .ok (.aload_n 0, 1) := by decide +kernel
theorem dX9_init_37 : decode cX9_init 37 = .ok (.bipush 8, 2) := by decide +kernel
theorem dX9_init_39 : decode cX9_init 39 = .ok (.newarray .int, 2) := by decide +kernel
theorem dX9_init_41 : decode cX9_init 41 = .ok (.putfield 22, 3) := by decide +kernel
theorem dX9_init_44 : decode cX9_init 44 = .ok (.aload_n 0, 1) := by decide +kernel
theorem dX9_init_45 : decode cX9_init 45 = .ok (.bipush 64, 2) := by decide +kernel
theorem dX9_init_47 : decode cX9_init 47 = .ok (.newarray .int, 2) := by decide +kernel
theorem dX9_init_49 : decode cX9_init 49 = .ok (.putfield 25, 3) := by decide +kernel
theorem dX9_init_52 : decode cX9_init 52 = .ok (.aload_n 0, 1) := by decide +kernel
theorem dX9_init_53 : decode cX9_init 53 = .ok (.bipush 16, 2) := by decide +kernel
theorem dX9_init_55 : decode cX9_init 55 = .ok (.newarray .int, 2) := by decide +kernel
theorem dX9_init_57 : decode cX9_init 57 = .ok (.putfield 28, 3) := by decide +kernel
theorem dX9_init_60 : decode cX9_init 60 = .ok (.aload_n 0, 1) := by decide +kernel
theorem dX9_init_61 : decode cX9_init 61 = .ok (.bipush 12, 2) := by decide +kernel
theorem dX9_init_63 : decode cX9_init 63 = .ok (.newarray .int, 2) := by decide +kernel
theorem dX9_init_65 : decode cX9_init 65 = .ok (.putfield 31, 3) := by decide +kernel
theorem dX9_init_68 : decode cX9_init 68 = .ok (.aload_n 0, 1) := by decide +kernel
theorem dX9_init_69 : decode cX9_init 69 = .ok (.sipush 200, 3) := by decide +kernel
theorem dX9_init_72 : decode cX9_init 72 = .ok (.newarray .int, 2) := by decide +kernel
theorem dX9_init_74 : decode cX9_init 74 = .ok (.putfield 34, 3) := by decide +kernel
theorem dX9_init_77 : decode cX9_init 77 = .ok (.aload_n 0, 1) := by decide +kernel
theorem dX9_init_78 : decode cX9_init 78 = .ok (.iconst 2, 1) := by decide +kernel
theorem dX9_init_79 : decode cX9_init 79 = .ok (.newarray .int, 2) := by decide +kernel
theorem dX9_init_81 : decode cX9_init 81 = .ok (.putfield 37, 3) := by decide +kernel
theorem dX9_init_84 : decode cX9_init 84 = .ok (.aload_n 0, 1) := by decide +kernel
theorem dX9_init_85 : decode cX9_init 85 = .ok (.bipush 6, 2) := by decide +kernel
theorem dX9_init_87 : decode cX9_init 87 = .ok (.newarray .int, 2) := by decide +kernel
theorem dX9_init_89 : decode cX9_init 89 = .ok (.putfield 40, 3) := by decide +kernel
theorem dX9_init_92 : decode cX9_init 92 = .ok (.aload_n 0, 1) := by decide +kernel
theorem dX9_init_93 : decode cX9_init 93 = .ok (.bipush 6, 2) := by decide +kernel
theorem dX9_init_95 : decode cX9_init 95 = .ok (.newarray .int, 2) := by decide +kernel
theorem dX9_init_97 : decode cX9_init 97 = .ok (.putfield 43, 3) := by decide +kernel
theorem dX9_init_100 : decode cX9_init 100 = .ok (.aload_n 0, 1) := by decide +kernel
theorem dX9_init_101 : decode cX9_init 101 = .ok (.bipush 9, 2) := by decide +kernel
theorem dX9_init_103 : decode cX9_init 103 = .ok (.newarray .int, 2) := by decide +kernel
theorem dX9_init_105 : decode cX9_init 105 = .ok (.putfield 46, 3) := by decide +kernel
theorem dX9_init_108 : decode cX9_init 108 = .ok (.aload_n 0, 1) := by decide +kernel
theorem dX9_init_109 : decode cX9_init 109 = .ok (.bipush 9, 2) := by decide +kernel
theorem dX9_init_111 : decode cX9_init 111 = .ok (.newarray .int, 2) := by decide +kernel
theorem dX9_init_113 : decode cX9_init 113 = .ok (.putfield 49, 3) := by decide +kernel
theorem dX9_init_116 : decode cX9_init 116 = .ok (.aload_n 0, 1) := by decide +kernel
theorem dX9_init_117 : decode cX9_init 117 = .ok (.bipush 9, 2) := by decide +kernel
theorem dX9_init_119 : decode cX9_init 119 = .ok (.newarray .int, 2) := by decide +kernel
theorem dX9_init_121 : decode cX9_init 121 = .ok (.putfield 52, 3) := by decide +kernel
theorem dX9_init_124 : decode cX9_init 124 = .ok (.aload_n 0, 1) := by decide +kernel
theorem dX9_init_125 : decode cX9_init 125 = .ok (.sipush 4320, 3) := by decide +kernel
theorem dX9_init_128 : decode cX9_init 128 = .ok (.newarray .int, 2) := by decide +kernel
theorem dX9_init_130 : decode cX9_init 130 = .ok (.putfield 55, 3) := by decide +kernel
theorem dX9_init_133 : decode cX9_init 133 = .ok (.aload_n 0, 1) := by decide +kernel
theorem dX9_init_134 : decode cX9_init 134 = .ok (.sipush 720, 3) := by decide +kernel
theorem dX9_init_137 : decode cX9_init 137 = .ok (.newarray .int, 2) := by decide +kernel
theorem dX9_init_139 : decode cX9_init 139 = .ok (.putfield 58, 3) := by decide +kernel
theorem dX9_init_142 : decode cX9_init 142 = .ok (.aload_n 0, 1) := by decide +kernel
theorem dX9_init_143 : decode cX9_init 143 = .ok (.sipush 720, 3) := by decide +kernel
theorem dX9_init_146 : decode cX9_init 146 = .ok (.newarray .int, 2) := by decide +kernel
theorem dX9_init_148 : decode cX9_init 148 = .ok (.putfield 61, 3) := by decide +kernel
theorem dX9_init_151 : decode cX9_init 151 = .ok (.aload_n 0, 1) := by decide +kernel
theorem dX9_init_152 : decode cX9_init 152 = .ok (.bipush 6, 2) := by decide +kernel
theorem dX9_init_154 : decode cX9_init 154 = .ok (.newarray .int, 2) := by decide +kernel
theorem dX9_init_156 : decode cX9_init 156 = .ok (.putfield 64, 3) := by decide +kernel
theorem dX9_init_159 : decode cX9_init 159 = .ok (.aload_n 0, 1) := by decide +kernel
theorem dX9_init_160 : decode cX9_init 160 = .ok (.bipush 6, 2) := by decide +kernel
theorem dX9_init_162 : decode cX9_init 162 = .ok (.newarray .int, 2) := by decide +kernel
theorem dX9_init_164 : decode cX9_init 164 = .ok (.putfield 67, 3) := by decide +kernel
theorem dX9_init_167 : decode cX9_init 167 = .ok (.aload_n 0, 1) := by decide +kernel
theorem dX9_init_168 : decode cX9_init 168 = .ok (.bipush 6, 2) := by decide +kernel
theorem dX9_init_170 : decode cX9_init 170 = .ok (.newarray .int, 2) := by decide +kernel
theorem dX9_init_172 : decode cX9_init 172 = .ok (.putfield 70, 3) := by decide +kernel
theorem dX9_init_175 : decode cX9_init 175 = .ok (.aload_n 0, 1) := by decide +kernel
theorem dX9_init_176 : decode cX9_init 176 = .ok (.invokevirtual 73, 3) := by decide +kernel
theorem dX9_init_179 : decode cX9_init 179 = .ok (.aload_n 0, 1) := by decide +kernel
theorem dX9_init_180 : decode cX9_init 180 = .ok (.iconst 0, 1) := by decide +kernel
theorem dX9_init_181 : decode cX9_init 181 = .ok (.iconst 1, 1) := by decide +kernel
theorem dX9_init_182 : decode cX9_init 182 = .ok (.invokevirtual 76, 3) := by decide +kernel
theorem dX9_init_185 : decode cX9_init 185 = .ok (.aload_n 0, 1) := by decide +kernel
theorem dX9_init_186 : decode cX9_init 186 = .ok (.iconst 1, 1) := by decide +kernel
theorem dX9_init_187 : decode cX9_init 187 = .ok (.iconst 3, 1) := by decide +kernel
theorem dX9_init_188 : decode cX9_init 188 = .ok (.invokevirtual 76, 3) := by decide +kernel
theorem dX9_init_191 : decode cX9_init 191 = .ok (.aload_n 0, 1) := by decide +kernel
theorem dX9_init_192 : decode cX9_init 192 = .ok (.iconst 0, 1) := by decide +kernel
theorem dX9_init_193 : decode cX9_init 193 = .ok (.iconst 2, 1) := by decide +kernel
theorem dX9_init_194 : decode cX9_init 194 = .ok (.invokevirtual 76, 3) := by decide +kernel
theorem dX9_init_197 : decode cX9_init 197 = .ok (.aload_n 0, 1) := by decide +kernel
theorem dX9_init_198 : decode cX9_init 198 = .ok (.iconst 2, 1) := by decide +kernel
theorem dX9_init_199 : decode cX9_init 199 = .ok (.iconst 5, 1) := by decide +kernel
theorem dX9_init_200 : decode cX9_init 200 = .ok (.invokevirtual 76, 3) := by decide +kernel
theorem dX9_init_203 : decode cX9_init 203 = .ok (.aload_n 0, 1) := by decide +kernel
theorem dX9_init_204 : decode cX9_init 204 = .ok (.iconst 3, 1) := by decide +kernel
theorem dX9_init_205 : decode cX9_init 205 = .ok (.iconst 3, 1) := by decide +kernel
theorem dX9_init_206 : decode cX9_init 206 = .ok (.invokevirtual 76, 3) := by decide +kernel
theorem dX9_init_209 : decode cX9_init 209 = .ok (.aload_n 0, 1) := by decide +kernel
theorem dX9_init_210 : decode cX9_init 210 = .ok (.iconst 0, 1) := by decide +kernel
theorem dX9_init_211 : decode cX9_init 211 = .ok (.iconst 0, 1) := by decide +kernel
theorem dX9_init_212 : decode cX9_init 212 = .ok (.iconst 1, 1) := by decide +kernel
theorem dX9_init_213 : decode cX9_init 213 = .ok (.invokevirtual 80, 3) := by decide +kernel
theorem dX9_init_216 : decode cX9_init 216 = .ok (.aload_n 0, 1) := by decide +kernel
theorem dX9_init_217 : decode cX9_init 217 = .ok (.iconst 1, 1) := by decide +kernel
theorem dX9_init_218 : decode cX9_init 218 = .ok (.iconst 2, 1) := by decide +kernel
theorem dX9_init_219 : decode cX9_init 219 = .ok (.iconst 0, 1) := by decide +kernel
theorem dX9_init_220 : decode cX9_init 220 = .ok (.invokevirtual 80, 3) := by decide +kernel
theorem dX9_init_223 : decode cX9_init 223 = .ok (.aload_n 0, 1) := by decide +kernel
theorem dX9_init_224 : decode cX9_init 224 = .ok (.iconst 0, 1) := by decide +kernel
theorem dX9_init_225 : decode cX9_init 225 = .ok (.iconst 3, 1) := by decide +kernel
theorem dX9_init_226 : decode cX9_init 226 = .ok (.iconst 4, 1) := by decide +kernel
theorem dX9_init_227 : decode cX9_init 227 = .ok (.invokevirtual 80, 3) := by decide +kernel
theorem dX9_init_230 : decode cX9_init 230 = .ok (.aload_n 0, 1) := by decide +kernel
theorem dX9_init_231 : decode cX9_init 231 = .ok (.iconst 3, 1) := by decide +kernel
theorem dX9_init_232 : decode cX9_init 232 = .ok (.iconst 1, 1) := by decide +kernel
theorem dX9_init_233 : decode cX9_init 233 = .ok (.bipush 12, 2) := by decide +kernel
theorem dX9_init_235 : decode cX9_init 235 = .ok (.invokevirtual 80, 3) := by decide +kernel
theorem dX9_init_238 : decode cX9_init 238 = .ok (.aload_n 0, 1) := by decide +kernel
theorem dX9_init_239 : decode cX9_init 239 = .ok (.iconst 4, 1) := by decide +kernel
theorem dX9_init_240 : decode cX9_init 240 = .ok (.iconst 3, 1) := by decide +kernel
theorem dX9_init_241 : decode cX9_init 241 = .ok (.bipush 30, 2) := by decide +kernel
theorem dX9_init_243 : decode cX9_init 243 = .ok (.invokevirtual 80, 3) := by decide +kernel
theorem dX9_init_246 : decode cX9_init 246 = .ok (.aload_n 0, 1) := by decide +kernel
theorem dX9_init_247 : decode cX9_init 247 = .ok (.iconst 0, 1) := by decide +kernel
theorem dX9_init_248 : decode cX9_init 248 = .ok (.iconst 1, 1) := by decide +kernel
theorem dX9_init_249 : decode cX9_init 249 = .ok (.iconst 3, 1) := by decide +kernel
theorem dX9_init_250 : decode cX9_init 250 = .ok (.invokevirtual 80, 3) := by decide +kernel
theorem dX9_init_253 : decode cX9_init 253 = .ok (.aload_n 0, 1) := by decide +kernel
theorem dX9_init_254 : decode cX9_init 254 = .ok (.iconst 2, 1) := by decide +kernel
theorem dX9_init_255 : decode cX9_init 255 = .ok (.putfield 84, 3) := by decide +kernel
theorem dX9_init_258 : decode cX9_init 258 = .ok (.aload_n 0, 1) := by decide +kernel
theorem dX9_init_259 : decode cX9_init 259 = .ok (.invokevirtual 88, 3) := by decide +kernel
theorem dX9_init_262 : decode cX9_init 262 = .ok (.return_, 1) := by decide +kernel
theorem dX9_tellsGuest_0 : decode cX9_tellsGuest 0 = .ok (.aload_n 0, 1) := by decide +kernel
theorem dX9_tellsGuest_1 : decode cX9_tellsGuest 1 = .ok (.getfield 40, 3) := by decide +kernel
theorem dX9_tellsGuest_4 : decode cX9_tellsGuest 4 = .ok (.aload_n 0, 1) := by decide +kernel
theorem dX9_tellsGuest_5 : decode cX9_tellsGuest 5 = .ok (.getfield 91, 3) := by decide +kernel
theorem dX9_tellsGuest_8 : decode cX9_tellsGuest 8 = .ok (.iload_n 1, 1) := by decide +kernel
theorem dX9_tellsGuest_9 : decode cX9_tellsGuest 9 = .ok (.iastore, 1) := by decide +kernel
theorem dX9_tellsGuest_10 : decode cX9_tellsGuest 10 = .ok (.aload_n 0, 1) := by decide +kernel
theorem dX9_tellsGuest_11 : decode cX9_tellsGuest 11 = .ok (.getfield 43, 3) := by decide +kernel
theorem dX9_tellsGuest_14 : decode cX9_tellsGuest 14 = .ok (.aload_n 0, 1) := by decide +kernel
theorem dX9_tellsGuest_15 : decode cX9_tellsGuest 15 = .ok (.getfield 91, 3) := by decide +kernel
theorem dX9_tellsGuest_18 : decode cX9_tellsGuest 18 = .ok (.iload_n 2, 1) := by decide +kernel
theorem dX9_tellsGuest_19 : decode cX9_tellsGuest 19 = .ok (.iastore, 1) := by decide +kernel
theorem dX9_tellsGuest_20 : decode cX9_tellsGuest 20 = .ok (.aload_n 0, 1) := by decide +kernel
theorem dX9_tellsGuest_21 : decode cX9_tellsGuest 21 = .ok (.dup, 1) := by decide +kernel
theorem dX9_tellsGuest_22 : decode cX9_tellsGuest 22 = .ok (.getfield 91, 3) := by decide +kernel
theorem dX9_tellsGuest_25 : decode cX9_tellsGuest 25 = .ok (.iconst 1, 1) := by decide +kernel
theorem dX9_tellsGuest_26 : decode cX9_tellsGuest 26 = .ok (.iadd, 1) := by decide +kernel
theorem dX9_tellsGuest_27 : decode cX9_tellsGuest 27 = .ok (.putfield 91, 3) := by decide +kernel
theorem dX9_tellsGuest_30 : decode cX9_tellsGuest 30 = .ok (.return_, 1) := by decide +kernel
theorem dX9_tellsWish_0 : decode cX9_tellsWish 0 = .ok (.aload_n 0, 1) := by decide +kernel
theorem dX9_tellsWish_1 : decode cX9_tellsWish 1 = .ok (.getfield 46, 3) := by decide +kernel
theorem dX9_tellsWish_4 : decode cX9_tellsWish 4 = .ok (.aload_n 0, 1) := by decide +kernel
theorem dX9_tellsWish_5 : decode cX9_tellsWish 5 = .ok (.getfield 94, 3) := by decide +kernel
theorem dX9_tellsWish_8 : decode cX9_tellsWish 8 = .ok (.iload_n 1, 1) := by decide +kernel
theorem dX9_tellsWish_9 : decode cX9_tellsWish 9 = .ok (.iastore, 1) := by decide +kernel
theorem dX9_tellsWish_10 : decode cX9_tellsWish 10 = .ok (.aload_n 0, 1) := by decide +kernel
theorem dX9_tellsWish_11 : decode cX9_tellsWish 11 = .ok (.getfield 49, 3) := by decide +kernel
theorem dX9_tellsWish_14 : decode cX9_tellsWish 14 = .ok (.aload_n 0, 1) := by decide +kernel
theorem dX9_tellsWish_15 : decode cX9_tellsWish 15 = .ok (.getfield 94, 3) := by decide +kernel
theorem dX9_tellsWish_18 : decode cX9_tellsWish 18 = .ok (.iload_n 2, 1) := by decide +kernel
theorem dX9_tellsWish_19 : decode cX9_tellsWish 19 = .ok (.iastore, 1) := by decide +kernel
theorem dX9_tellsWish_20 : decode cX9_tellsWish 20 = .ok (.aload_n 0, 1) := by decide +kernel
theorem dX9_tellsWish_21 : decode cX9_tellsWish 21 = .ok (.getfield 52, 3) := by decide +kernel
theorem dX9_tellsWish_24 : decode cX9_tellsWish 24 = .ok (.aload_n 0, 1) := by decide +kernel
theorem dX9_tellsWish_25 : decode cX9_tellsWish 25 = .ok (.getfield 94, 3) := by decide +kernel
theorem dX9_tellsWish_28 : decode cX9_tellsWish 28 = .ok (.iload_n 3, 1) := by decide +kernel
theorem dX9_tellsWish_29 : decode cX9_tellsWish 29 = .ok (.iastore, 1) := by decide +kernel
theorem dX9_tellsWish_30 : decode cX9_tellsWish 30 = .ok (.aload_n 0, 1) := by decide +kernel
theorem dX9_tellsWish_31 : decode cX9_tellsWish 31 = .ok (.dup, 1) := by decide +kernel
theorem dX9_tellsWish_32 : decode cX9_tellsWish 32 = .ok (.getfield 94, 3) := by decide +kernel
theorem dX9_tellsWish_35 : decode cX9_tellsWish 35 = .ok (.iconst 1, 1) := by decide +kernel
theorem dX9_tellsWish_36 : decode cX9_tellsWish 36 = .ok (.iadd, 1) := by decide +kernel
theorem dX9_tellsWish_37 : decode cX9_tellsWish 37 = .ok (.putfield 94, 3) := by decide +kernel
theorem dX9_tellsWish_40 : decode cX9_tellsWish 40 = .ok (.return_, 1) := by decide +kernel
theorem dX9_in_0 : decode cX9_in 0 = .ok (.iload_n 0, 1) := by decide +kernel
theorem dX9_in_1 : decode cX9_in 1 = .ok (.iload_n 1, 1) := by decide +kernel
theorem dX9_in_2 : decode cX9_in 2 = .ok (.if_icmp .lt 12, 3) := by decide +kernel
theorem dX9_in_5 : decode cX9_in 5 = .ok (.iload_n 0, 1) := by decide +kernel
theorem dX9_in_6 : decode cX9_in 6 = .ok (.iload_n 2, 1) := by decide +kernel
theorem dX9_in_7 : decode cX9_in 7 = .ok (.if_icmp .gt 7, 3) := by decide +kernel
theorem dX9_in_10 : decode cX9_in 10 = .ok (.iconst 1, 1) := by decide +kernel
theorem dX9_in_11 : decode cX9_in 11 = .ok (.goto 4, 3) := by decide +kernel
theorem dX9_in_14 : decode cX9_in 14 = .ok (.iconst 0, 1) := by decide +kernel
theorem dX9_in_15 : decode cX9_in 15 = .ok (.ireturn, 1) := by decide +kernel
theorem dX9_has_0 : decode cX9_has 0 = .ok (.iload_n 0, 1) := by decide +kernel
theorem dX9_has_1 : decode cX9_has 1 = .ok (.iload_n 1, 1) := by decide +kernel
theorem dX9_has_2 : decode cX9_has 2 = .ok (.ishr, 1) := by decide +kernel
theorem dX9_has_3 : decode cX9_has 3 = .ok (.iconst 1, 1) := by decide +kernel
theorem dX9_has_4 : decode cX9_has 4 = .ok (.iand, 1) := by decide +kernel
theorem dX9_has_5 : decode cX9_has 5 = .ok (.iconst 1, 1) := by decide +kernel
theorem dX9_has_6 : decode cX9_has 6 = .ok (.if_icmp .ne 7, 3) := by decide +kernel
theorem dX9_has_9 : decode cX9_has 9 = .ok (.iconst 1, 1) := by decide +kernel
theorem dX9_has_10 : decode cX9_has 10 = .ok (.goto 4, 3) := by decide +kernel
theorem dX9_has_13 : decode cX9_has 13 = .ok (.iconst 0, 1) := by decide +kernel
theorem dX9_has_14 : decode cX9_has 14 = .ok (.ireturn, 1) := by decide +kernel
theorem dX9_bits_0 : decode cX9_bits 0 = .ok (.iconst 0, 1) := by decide +kernel
theorem dX9_bits_1 : decode cX9_bits 1 = .ok (.istore_n 1, 1) := by decide +kernel
theorem dX9_bits_2 : decode cX9_bits 2 = .ok (.iconst 0, 1) := by decide +kernel
theorem dX9_bits_3 : decode cX9_bits 3 = .ok (.istore_n 2, 1) := by decide +kernel
theorem dX9_bits_4 : decode cX9_bits 4 = .ok (.iload_n 2, 1) := by decide +kernel
theorem dX9_bits_5 : decode cX9_bits 5 = .ok (.bipush 9, 2) := by decide +kernel
theorem dX9_bits_7 : decode cX9_bits 7 = .ok (.if_icmp .ge 17, 3) := by decide +kernel
theorem dX9_bits_10 : decode cX9_bits 10 = .ok (.iload_n 1, 1) := by decide +kernel
theorem dX9_bits_11 : decode cX9_bits 11 = .ok (.iload_n 0, 1) := by decide +kernel
theorem dX9_bits_12 : decode cX9_bits 12 = .ok (.iload_n 2, 1) := by decide +kernel
theorem dX9_bits_13 : decode cX9_bits 13 = .ok (.ishr, 1) := by decide +kernel
theorem dX9_bits_14 : decode cX9_bits 14 = .ok (.iconst 1, 1) := by decide +kernel
theorem dX9_bits_15 : decode cX9_bits 15 = .ok (.iand, 1) := by decide +kernel
theorem dX9_bits_16 : decode cX9_bits 16 = .ok (.iadd, 1) := by decide +kernel
theorem dX9_bits_17 : decode cX9_bits 17 = .ok (.istore_n 1, 1) := by decide +kernel
theorem dX9_bits_18 : decode cX9_bits 18 = .ok (.iinc 2 1, 3) := by decide +kernel
theorem dX9_bits_21 : decode cX9_bits 21 = .ok (.goto (-17), 3) := by decide +kernel
theorem dX9_bits_24 : decode cX9_bits 24 = .ok (.iload_n 1, 1) := by decide +kernel
theorem dX9_bits_25 : decode cX9_bits 25 = .ok (.ireturn, 1) := by decide +kernel
set_option maxRecDepth 20000 in
theorem ggX9_isGuest_X9_in : GoodIn wsX9_isGuest wsX9_in := goodIn_r _ [5] (by decide +kernel) (by decide +kernel)
set_option maxRecDepth 20000 in
theorem gX9_isGuest_X9_in : GoodIn wsX9_isGuest (va_wsS RX9 100 yX9_in wsX9_in) := goodIn_app (goodIn_of _ (by decide +kernel)) ggX9_isGuest_X9_in
theorem dX9_isGuest_0 : decode cX9_isGuest 0 = .ok (.iload_n 1, 1) := by decide +kernel
theorem dX9_isGuest_1 : decode cX9_isGuest 1 = .ok (.iconst 0, 1) := by decide +kernel
theorem dX9_isGuest_2 : decode cX9_isGuest 2 = .ok (.aload_n 0, 1) := by decide +kernel
theorem dX9_isGuest_3 : decode cX9_isGuest 3 = .ok (.getfield 97, 3) := by decide +kernel
theorem dX9_isGuest_6 : decode cX9_isGuest 6 = .ok (.iconst 1, 1) := by decide +kernel
theorem dX9_isGuest_7 : decode cX9_isGuest 7 = .ok (.isub, 1) := by decide +kernel
theorem dX9_isGuest_8 : decode cX9_isGuest 8 = .ok (.invokestatic 100, 3) := by decide +kernel
theorem dX9_isGuest_11 : decode cX9_isGuest 11 = .ok (.ireturn, 1) := by decide +kernel
set_option maxRecDepth 20000 in
theorem ggX9_isHere_X9_has : GoodIn wsX9_isHere wsX9_has := goodIn_r _ [5] (by decide +kernel) (by decide +kernel)
set_option maxRecDepth 20000 in
theorem gX9_isHere_X9_has : GoodIn wsX9_isHere (va_wsS RX9 104 yX9_has wsX9_has) := goodIn_app (goodIn_of _ (by decide +kernel)) ggX9_isHere_X9_has
theorem dX9_isHere_0 : decode cX9_isHere 0 = .ok (.aload_n 0, 1) := by decide +kernel
theorem dX9_isHere_1 : decode cX9_isHere 1 = .ok (.getfield 22, 3) := by decide +kernel
theorem dX9_isHere_4 : decode cX9_isHere 4 = .ok (.iconst 0, 1) := by decide +kernel
theorem dX9_isHere_5 : decode cX9_isHere 5 = .ok (.iaload, 1) := by decide +kernel
theorem dX9_isHere_6 : decode cX9_isHere 6 = .ok (.iload_n 1, 1) := by decide +kernel
theorem dX9_isHere_7 : decode cX9_isHere 7 = .ok (.invokestatic 104, 3) := by decide +kernel
theorem dX9_isHere_10 : decode cX9_isHere 10 = .ok (.ireturn, 1) := by decide +kernel
set_option maxRecDepth 20000 in
theorem ggX9_write_X9_in : GoodIn wsX9_write wsX9_in := goodIn_r _ [6] (by decide +kernel) (by decide +kernel)
set_option maxRecDepth 20000 in
theorem gX9_write_X9_in : GoodIn wsX9_write (va_wsS RX9 100 yX9_in wsX9_in) := goodIn_app (goodIn_of _ (by decide +kernel)) ggX9_write_X9_in
theorem dX9_write_0 : decode cX9_write 0 = .ok (.iload_n 1, 1) := by decide +kernel
theorem dX9_write_1 : decode cX9_write 1 = .ok (.bipush 32, 2) := by decide +kernel
theorem dX9_write_3 : decode cX9_write 3 = .ok (.bipush 126, 2) := by decide +kernel
theorem dX9_write_5 : decode cX9_write 5 = .ok (.invokestatic 100, 3) := by decide +kernel
theorem dX9_write_8 : decode cX9_write 8 = .ok (.ifCond .ne 5, 3) := by decide +kernel
theorem dX9_write_11 : decode cX9_write 11 = .ok (.iconst (-1), 1) := by decide +kernel
theorem dX9_write_12 : decode cX9_write 12 = .ok (.ireturn, 1) := by decide +kernel
theorem dX9_write_13 : decode cX9_write 13 = .ok (.aload_n 0, 1) := by decide +kernel
theorem dX9_write_14 : decode cX9_write 14 = .ok (.getfield 108, 3) := by decide +kernel
theorem dX9_write_17 : decode cX9_write 17 = .ok (.sipush 200, 3) := by decide +kernel
theorem dX9_write_20 : decode cX9_write 20 = .ok (.if_icmp .ne 6, 3) := by decide +kernel
theorem dX9_write_23 : decode cX9_write 23 = .ok (.bipush (-3), 2) := by decide +kernel
theorem dX9_write_25 : decode cX9_write 25 = .ok (.ireturn, 1) := by decide +kernel
theorem dX9_write_26 : decode cX9_write 26 = .ok (.aload_n 0, 1) := by decide +kernel
theorem dX9_write_27 : decode cX9_write 27 = .ok (.getfield 34, 3) := by decide +kernel
theorem dX9_write_30 : decode cX9_write 30 = .ok (.aload_n 0, 1) := by decide +kernel
theorem dX9_write_31 : decode cX9_write 31 = .ok (.getfield 108, 3) := by decide +kernel
theorem dX9_write_34 : decode cX9_write 34 = .ok (.iload_n 1, 1) := by decide +kernel
theorem dX9_write_35 : decode cX9_write 35 = .ok (.iastore, 1) := by decide +kernel
theorem dX9_write_36 : decode cX9_write 36 = .ok (.aload_n 0, 1) := by decide +kernel
theorem dX9_write_37 : decode cX9_write 37 = .ok (.dup, 1) := by decide +kernel
theorem dX9_write_38 : decode cX9_write 38 = .ok (.getfield 108, 3) := by decide +kernel
theorem dX9_write_41 : decode cX9_write 41 = .ok (.iconst 1, 1) := by decide +kernel
theorem dX9_write_42 : decode cX9_write 42 = .ok (.iadd, 1) := by decide +kernel
theorem dX9_write_43 : decode cX9_write 43 = .ok (.putfield 108, 3) := by decide +kernel
theorem dX9_write_46 : decode cX9_write 46 = .ok (.aload_n 0, 1) := by decide +kernel
theorem dX9_write_47 : decode cX9_write 47 = .ok (.getfield 108, 3) := by decide +kernel
theorem dX9_write_50 : decode cX9_write 50 = .ok (.ireturn, 1) := by decide +kernel
theorem dX9_wipe_0 : decode cX9_wipe 0 = .ok (.aload_n 0, 1) := by decide +kernel
theorem dX9_wipe_1 : decode cX9_wipe 1 = .ok (.getfield 108, 3) := by decide +kernel
theorem dX9_wipe_4 : decode cX9_wipe 4 = .ok (.istore_n 1, 1) := by decide +kernel
theorem dX9_wipe_5 : decode cX9_wipe 5 = .ok (.aload_n 0, 1) := by decide +kernel
theorem dX9_wipe_6 : decode cX9_wipe 6 = .ok (.iconst 0, 1) := by decide +kernel
theorem dX9_wipe_7 : decode cX9_wipe 7 = .ok (.putfield 108, 3) := by decide +kernel
theorem dX9_wipe_10 : decode cX9_wipe 10 = .ok (.iload_n 1, 1) := by decide +kernel
theorem dX9_wipe_11 : decode cX9_wipe 11 = .ok (.ireturn, 1) := by decide +kernel
theorem dX9_letterAt_0 : decode cX9_letterAt 0 = .ok (.iload_n 1, 1) := by decide +kernel
theorem dX9_letterAt_1 : decode cX9_letterAt 1 = .ok (.aload_n 0, 1) := by decide +kernel
theorem dX9_letterAt_2 : decode cX9_letterAt 2 = .ok (.getfield 108, 3) := by decide +kernel
theorem dX9_letterAt_5 : decode cX9_letterAt 5 = .ok (.if_icmp .ge 12, 3) := by decide +kernel
theorem dX9_letterAt_8 : decode cX9_letterAt 8 = .ok (.aload_n 0, 1) := by decide +kernel
theorem dX9_letterAt_9 : decode cX9_letterAt 9 = .ok (.getfield 34, 3) := by decide +kernel
theorem dX9_letterAt_12 : decode cX9_letterAt 12 = .ok (.iload_n 1, 1) := by decide +kernel
theorem dX9_letterAt_13 : decode cX9_letterAt 13 = .ok (.iaload, 1) := by decide +kernel
theorem dX9_letterAt_14 : decode cX9_letterAt 14 = .ok (.goto 4, 3) := by decide +kernel
theorem dX9_letterAt_17 : decode cX9_letterAt 17 = .ok (.iconst (-1), 1) := by decide +kernel
theorem dX9_letterAt_18 : decode cX9_letterAt 18 = .ok (.ireturn, 1) := by decide +kernel
set_option maxRecDepth 20000 in
theorem ggX9_isFigure_X9_in : GoodIn wsX9_isFigure wsX9_in := goodIn_r _ [4] (by decide +kernel) (by decide +kernel)
set_option maxRecDepth 20000 in
theorem gX9_isFigure_X9_in : GoodIn wsX9_isFigure (va_wsS RX9 100 yX9_in wsX9_in) := goodIn_app (goodIn_of _ (by decide +kernel)) ggX9_isFigure_X9_in
theorem dX9_isFigure_0 : decode cX9_isFigure 0 = .ok (.iload_n 0, 1) := by decide +kernel
theorem dX9_isFigure_1 : decode cX9_isFigure 1 = .ok (.bipush 48, 2) := by decide +kernel
theorem dX9_isFigure_3 : decode cX9_isFigure 3 = .ok (.bipush 57, 2) := by decide +kernel
theorem dX9_isFigure_5 : decode cX9_isFigure 5 = .ok (.invokestatic 100, 3) := by decide +kernel
theorem dX9_isFigure_8 : decode cX9_isFigure 8 = .ok (.ireturn, 1) := by decide +kernel
set_option maxRecDepth 20000 in
theorem ggX9_readNumbers_X9_letterAt : GoodIn wsX9_readNumbers wsX9_letterAt := goodIn_r _ [7, 8, 9, 16, 17, 18, 19, 20, 21, 22, 23, 24, 25, 26, 27, 28, 29, 30, 31, 32, 33, 34, 35, 36, 37, 38, 39, 40, 41, 42, 43, 44, 45, 46, 47, 48, 49, 50, 51] (by decide +kernel) (by decide +kernel)
set_option maxRecDepth 20000 in
theorem gX9_readNumbers_X9_letterAt : GoodIn wsX9_readNumbers (wsV RX9 114 RX9 yX9_letterAt wsX9_letterAt) := goodIn_app (goodIn_of _ (by decide +kernel)) ggX9_readNumbers_X9_letterAt
set_option maxRecDepth 20000 in
theorem ggX9_readNumbers_X9_isFigure : GoodIn wsX9_readNumbers wsX9_isFigure := goodIn_r _ [12, 13, 14, 6, 15] (by decide +kernel) (by decide +kernel)
set_option maxRecDepth 20000 in
theorem gX9_readNumbers_X9_isFigure : GoodIn wsX9_readNumbers (va_wsS RX9 118 yX9_isFigure wsX9_isFigure) := goodIn_app (goodIn_of _ (by decide +kernel)) ggX9_readNumbers_X9_isFigure
theorem dX9_readNumbers_0 : decode cX9_readNumbers 0 = .ok (.iconst 0, 1) := by decide +kernel
theorem dX9_readNumbers_1 : decode cX9_readNumbers 1 = .ok (.istore_n 2, 1) := by decide +kernel
theorem dX9_readNumbers_2 : decode cX9_readNumbers 2 = .ok (.iload_n 2, 1) := by decide +kernel
theorem dX9_readNumbers_3 : decode cX9_readNumbers 3 = .ok (.iload_n 1, 1) := by decide +kernel
theorem dX9_readNumbers_4 : decode cX9_readNumbers 4 = .ok (.if_icmp .ge 140, 3) := by decide +kernel
theorem dX9_readNumbers_7 : decode cX9_readNumbers 7 = .ok (.aload_n 0, 1) := by decide +kernel
theorem dX9_readNumbers_8 : decode cX9_readNumbers 8 = .ok (.aload_n 0, 1) := by decide +kernel
theorem dX9_readNumbers_9 : decode cX9_readNumbers 9 = .ok (.getfield 111, 3) := by decide +kernel
theorem dX9_readNumbers_12 : decode cX9_readNumbers 12 = .ok (.invokevirtual 114, 3) := by decide +kernel
theorem dX9_readNumbers_15 : decode cX9_readNumbers 15 = .ok (.invokestatic 118, 3) := by decide +kernel
theorem dX9_readNumbers_18 : decode cX9_readNumbers 18 = .ok (.ifCond .ne 5, 3) := by decide +kernel
theorem dX9_readNumbers_21 : decode cX9_readNumbers 21 = .ok (.iconst 0, 1) := by decide +kernel
theorem dX9_readNumbers_22 : decode cX9_readNumbers 22 = .ok (.ireturn, 1) := by decide +kernel
theorem dX9_readNumbers_23 : decode cX9_readNumbers 23 = .ok (.aload_n 0, 1) := by decide +kernel
theorem dX9_readNumbers_24 : decode cX9_readNumbers 24 = .ok (.getfield 37, 3) := by decide +kernel
theorem dX9_readNumbers_27 : decode cX9_readNumbers 27 = .ok (.iload_n 2, 1) := by decide +kernel
theorem dX9_readNumbers_28 : decode cX9_readNumbers 28 = .ok (.aload_n 0, 1) := by decide +kernel
theorem dX9_readNumbers_29 : decode cX9_readNumbers 29 = .ok (.aload_n 0, 1) := by decide +kernel
theorem dX9_readNumbers_30 : decode cX9_readNumbers 30 = .ok (.getfield 111, 3) := by decide +kernel
theorem dX9_readNumbers_33 : decode cX9_readNumbers 33 = .ok (.invokevirtual 114, 3) := by decide +kernel
theorem dX9_readNumbers_36 : decode cX9_readNumbers 36 = .ok (.bipush 48, 2) := by decide +kernel
theorem dX9_readNumbers_38 : decode cX9_readNumbers 38 = .ok (.isub, 1) := by decide +kernel
theorem dX9_readNumbers_39 : decode cX9_readNumbers 39 = .ok (.iastore, 1) := by decide +kernel
theorem dX9_readNumbers_40 : decode cX9_readNumbers 40 = .ok (.aload_n 0, 1) := by decide +kernel
theorem dX9_readNumbers_41 : decode cX9_readNumbers 41 = .ok (.dup, 1) := by decide +kernel
theorem dX9_readNumbers_42 : decode cX9_readNumbers 42 = .ok (.getfield 111, 3) := by decide +kernel
theorem dX9_readNumbers_45 : decode cX9_readNumbers 45 = .ok (.iconst 1, 1) := by decide +kernel
theorem dX9_readNumbers_46 : decode cX9_readNumbers 46 = .ok (.iadd, 1) := by decide +kernel
theorem dX9_readNumbers_47 : decode cX9_readNumbers 47 = .ok (.putfield 111, 3) := by decide +kernel
theorem dX9_readNumbers_50 : decode cX9_readNumbers 50 = .ok (.aload_n 0, 1) := by decide +kernel
theorem dX9_readNumbers_51 : decode cX9_readNumbers 51 = .ok (.aload_n 0, 1) := by decide +kernel
theorem dX9_readNumbers_52 : decode cX9_readNumbers 52 = .ok (.getfield 111, 3) := by decide +kernel
theorem dX9_readNumbers_55 : decode cX9_readNumbers 55 = .ok (.invokevirtual 114, 3) := by decide +kernel
theorem dX9_readNumbers_58 : decode cX9_readNumbers 58 = .ok (.invokestatic 118, 3) := by decide +kernel
theorem dX9_readNumbers_61 : decode cX9_readNumbers 61 = .ok (.ifCond .eq 40, 3) := by decide +kernel
theorem dX9_readNumbers_64 : decode cX9_readNumbers 64 = .ok (.aload_n 0, 1) := by decide +kernel
theorem dX9_readNumbers_65 : decode cX9_readNumbers 65 = .ok (.getfield 37, 3) := by decide +kernel
theorem dX9_readNumbers_68 : decode cX9_readNumbers 68 = .ok (.iload_n 2, 1) := by decide +kernel
theorem dX9_readNumbers_69 : decode cX9_readNumbers 69 = .ok (.bipush 10, 2) := by decide +kernel
theorem dX9_readNumbers_71 : decode cX9_readNumbers 71 = .ok (.aload_n 0, 1) := by decide +kernel
theorem dX9_readNumbers_72 : decode cX9_readNumbers 72 = .ok (.getfield 37, 3) := by decide +kernel
theorem dX9_readNumbers_75 : decode cX9_readNumbers 75 = .ok (.iload_n 2, 1) := by decide +kernel
theorem dX9_readNumbers_76 : decode cX9_readNumbers 76 = .ok (.iaload, 1) := by decide +kernel
theorem dX9_readNumbers_77 : decode cX9_readNumbers 77 = .ok (.imul, 1) := by decide +kernel
theorem dX9_readNumbers_78 : decode cX9_readNumbers 78 = .ok (.aload_n 0, 1) := by decide +kernel
theorem dX9_readNumbers_79 : decode cX9_readNumbers 79 = .ok (.aload_n 0, 1) := by decide +kernel
theorem dX9_readNumbers_80 : decode cX9_readNumbers 80 = .ok (.getfield 111, 3) := by decide +kernel
theorem dX9_readNumbers_83 : decode cX9_readNumbers 83 = .ok (.invokevirtual 114, 3) := by decide +kernel
theorem dX9_readNumbers_86 : decode cX9_readNumbers 86 = .ok (.iadd, 1) := by decide +kernel
theorem dX9_readNumbers_87 : decode cX9_readNumbers 87 = .ok (.bipush 48, 2) := by decide +kernel
theorem dX9_readNumbers_89 : decode cX9_readNumbers 89 = .ok (.isub, 1) := by decide +kernel
theorem dX9_readNumbers_90 : decode cX9_readNumbers 90 = .ok (.iastore, 1) := by decide +kernel
theorem dX9_readNumbers_91 : decode cX9_readNumbers 91 = .ok (.aload_n 0, 1) := by decide +kernel
theorem dX9_readNumbers_92 : decode cX9_readNumbers 92 = .ok (.dup, 1) := by decide +kernel
theorem dX9_readNumbers_93 : decode cX9_readNumbers 93 = .ok (.getfield 111, 3) := by decide +kernel
theorem dX9_readNumbers_96 : decode cX9_readNumbers 96 = .ok (.iconst 1, 1) := by decide +kernel
theorem dX9_readNumbers_97 : decode cX9_readNumbers 97 = .ok (.iadd, 1) := by decide +kernel
theorem dX9_readNumbers_98 : decode cX9_readNumbers 98 = .ok (.putfield 111, 3) := by decide +kernel
theorem dX9_readNumbers_101 : decode cX9_readNumbers 101 = .ok (.aload_n 0, 1) := by decide +kernel
theorem dX9_readNumbers_102 : decode cX9_readNumbers 102 = .ok (.aload_n 0, 1) := by decide +kernel
theorem dX9_readNumbers_103 : decode cX9_readNumbers 103 = .ok (.getfield 111, 3) := by decide +kernel
theorem dX9_readNumbers_106 : decode cX9_readNumbers 106 = .ok (.invokevirtual 114, 3) := by decide +kernel
theorem dX9_readNumbers_109 : decode cX9_readNumbers 109 = .ok (.iload_n 2, 1) := by decide +kernel
theorem dX9_readNumbers_110 : decode cX9_readNumbers 110 = .ok (.iload_n 1, 1) := by decide +kernel
theorem dX9_readNumbers_111 : decode cX9_readNumbers 111 = .ok (.iconst 1, 1) := by decide +kernel
theorem dX9_readNumbers_112 : decode cX9_readNumbers 112 = .ok (.isub, 1) := by decide +kernel
theorem dX9_readNumbers_113 : decode cX9_readNumbers 113 = .ok (.if_icmp .ge 8, 3) := by decide +kernel
theorem dX9_readNumbers_116 : decode cX9_readNumbers 116 = .ok (.bipush 44, 2) := by decide +kernel
theorem dX9_readNumbers_118 : decode cX9_readNumbers 118 = .ok (.goto 5, 3) := by decide +kernel
theorem dX9_readNumbers_121 : decode cX9_readNumbers 121 = .ok (.bipush 59, 2) := by decide +kernel
theorem dX9_readNumbers_123 : decode cX9_readNumbers 123 = .ok (.if_icmp .eq 5, 3) := by decide +kernel
theorem dX9_readNumbers_126 : decode cX9_readNumbers 126 = .ok (.iconst 0, 1) := by decide +kernel
theorem dX9_readNumbers_127 : decode cX9_readNumbers 127 = .ok (.ireturn, 1) := by decide +kernel
theorem dX9_readNumbers_128 : decode cX9_readNumbers 128 = .ok (.aload_n 0, 1) := by decide +kernel
theorem dX9_readNumbers_129 : decode cX9_readNumbers 129 = .ok (.dup, 1) := by decide +kernel
theorem dX9_readNumbers_130 : decode cX9_readNumbers 130 = .ok (.getfield 111, 3) := by decide +kernel
theorem dX9_readNumbers_133 : decode cX9_readNumbers 133 = .ok (.iconst 1, 1) := by decide +kernel
theorem dX9_readNumbers_134 : decode cX9_readNumbers 134 = .ok (.iadd, 1) := by decide +kernel
theorem dX9_readNumbers_135 : decode cX9_readNumbers 135 = .ok (.putfield 111, 3) := by decide +kernel
theorem dX9_readNumbers_138 : decode cX9_readNumbers 138 = .ok (.iinc 2 1, 3) := by decide +kernel
theorem dX9_readNumbers_141 : decode cX9_readNumbers 141 = .ok (.goto (-139), 3) := by decide +kernel
theorem dX9_readNumbers_144 : decode cX9_readNumbers 144 = .ok (.iconst 1, 1) := by decide +kernel
theorem dX9_readNumbers_145 : decode cX9_readNumbers 145 = .ok (.ireturn, 1) := by decide +kernel
set_option maxRecDepth 20000 in
theorem ggX9_isTold_X9_in : GoodIn wsX9_isTold wsX9_in := goodIn_r _ [5] (by decide +kernel) (by decide +kernel)
set_option maxRecDepth 20000 in
theorem gX9_isTold_X9_in : GoodIn wsX9_isTold (va_wsS RX9 100 yX9_in wsX9_in) := goodIn_app (goodIn_of _ (by decide +kernel)) ggX9_isTold_X9_in
theorem dX9_isTold_0 : decode cX9_isTold 0 = .ok (.aload_n 0, 1) := by decide +kernel
theorem dX9_isTold_1 : decode cX9_isTold 1 = .ok (.getfield 37, 3) := by decide +kernel
theorem dX9_isTold_4 : decode cX9_isTold 4 = .ok (.iload_n 1, 1) := by decide +kernel
theorem dX9_isTold_5 : decode cX9_isTold 5 = .ok (.iaload, 1) := by decide +kernel
theorem dX9_isTold_6 : decode cX9_isTold 6 = .ok (.iload_n 2, 1) := by decide +kernel
theorem dX9_isTold_7 : decode cX9_isTold 7 = .ok (.iload_n 3, 1) := by decide +kernel
theorem dX9_isTold_8 : decode cX9_isTold 8 = .ok (.invokestatic 100, 3) := by decide +kernel
theorem dX9_isTold_11 : decode cX9_isTold 11 = .ok (.ireturn, 1) := by decide +kernel
theorem dX9_clearTold_0 : decode cX9_clearTold 0 = .ok (.aload_n 0, 1) := by decide +kernel
theorem dX9_clearTold_1 : decode cX9_clearTold 1 = .ok (.iconst 0, 1) := by decide +kernel
theorem dX9_clearTold_2 : decode cX9_clearTold 2 = .ok (.putfield 91, 3) := by decide +kernel
theorem dX9_clearTold_5 : decode cX9_clearTold 5 = .ok (.aload_n 0, 1) := by decide +kernel
theorem dX9_clearTold_6 : decode cX9_clearTold 6 = .ok (.iconst 0, 1) := by decide +kernel
theorem dX9_clearTold_7 : decode cX9_clearTold 7 = .ok (.putfield 94, 3) := by decide +kernel
theorem dX9_clearTold_10 : decode cX9_clearTold 10 = .ok (.aload_n 0, 1) := by decide +kernel
theorem dX9_clearTold_11 : decode cX9_clearTold 11 = .ok (.iconst 0, 1) := by decide +kernel
theorem dX9_clearTold_12 : decode cX9_clearTold 12 = .ok (.putfield 84, 3) := by decide +kernel
theorem dX9_clearTold_15 : decode cX9_clearTold 15 = .ok (.return_, 1) := by decide +kernel
set_option maxRecDepth 20000 in
theorem ggX9_readGuestOf_X9_readNumbers : GoodIn wsX9_readGuestOf wsX9_readNumbers := goodIn_r _ [7, 8, 2, 9, 10, 11, 6, 12, 13, 14, 15, 16, 17, 18, 19, 20, 31, 32, 33, 34, 35, 36, 37, 38, 39, 40, 41, 42, 43, 44, 45, 46, 47, 48, 49, 50, 51, 52, 53, 54, 55, 56, 57, 58, 59, 60, 61, 62, 63, 64, 65, 66] (by decide +kernel) (by decide +kernel)
set_option maxRecDepth 20000 in
theorem gX9_readGuestOf_X9_readNumbers : GoodIn wsX9_readGuestOf (wsV RX9 122 RX9 yX9_readNumbers wsX9_readNumbers) := goodIn_app (goodIn_of _ (by decide +kernel)) ggX9_readGuestOf_X9_readNumbers
set_option maxRecDepth 20000 in
theorem ggX9_readGuestOf_X9_isTold : GoodIn wsX9_readGuestOf wsX9_isTold := goodIn_r _ [24, 2, 18, 19, 6, 20, 31, 32, 33, 34, 35, 36, 37, 38, 39, 40, 41, 42, 43, 44, 45, 46, 47, 48, 49, 50, 51, 52, 53, 54, 55, 56, 57, 58, 59, 60, 61, 62, 63, 64, 65, 66] (by decide +kernel) (by decide +kernel)
set_option maxRecDepth 20000 in
theorem gX9_readGuestOf_X9_isTold : GoodIn wsX9_readGuestOf (wsV RX9 125 RX9 yX9_isTold wsX9_isTold) := goodIn_app (goodIn_of _ (by decide +kernel)) ggX9_readGuestOf_X9_isTold
set_option maxRecDepth 20000 in
theorem ggX9_readGuestOf_X9_tellsGuest : GoodIn wsX9_readGuestOf wsX9_tellsGuest := goodIn_r _ [28, 29, 1, 30, 31, 32, 33, 34, 35, 36, 37, 38, 39, 40, 41, 42, 43, 44, 45, 46, 47, 48, 49, 50, 51, 52, 53, 54, 55, 56, 57, 58, 59, 60, 61, 62, 63, 64, 65, 66] (by decide +kernel) (by decide +kernel)
set_option maxRecDepth 20000 in
theorem gX9_readGuestOf_X9_tellsGuest : GoodIn wsX9_readGuestOf (wsV RX9 76 RX9 yX9_tellsGuest wsX9_tellsGuest) := goodIn_app (goodIn_of _ (by decide +kernel)) ggX9_readGuestOf_X9_tellsGuest
theorem dX9_readGuestOf_0 : decode cX9_readGuestOf 0 = .ok (.aload_n 0, 1) := by decide +kernel
theorem dX9_readGuestOf_1 : decode cX9_readGuestOf 1 = .ok (.getfield 91, 3) := by decide +kernel
theorem dX9_readGuestOf_4 : decode cX9_readGuestOf 4 = .ok (.bipush 6, 2) := by decide +kernel
theorem dX9_readGuestOf_6 : decode cX9_readGuestOf 6 = .ok (.if_icmp .eq 32, 3) := by decide +kernel
theorem dX9_readGuestOf_9 : decode cX9_readGuestOf 9 = .ok (.aload_n 0, 1) := by decide +kernel
theorem dX9_readGuestOf_10 : decode cX9_readGuestOf 10 = .ok (.iconst 2, 1) := by decide +kernel
theorem dX9_readGuestOf_11 : decode cX9_readGuestOf 11 = .ok (.invokevirtual 122, 3) := by decide +kernel
theorem dX9_readGuestOf_14 : decode cX9_readGuestOf 14 = .ok (.ifCond .eq 24, 3) := by decide +kernel
theorem dX9_readGuestOf_17 : decode cX9_readGuestOf 17 = .ok (.aload_n 0, 1) := by decide +kernel
theorem dX9_readGuestOf_18 : decode cX9_readGuestOf 18 = .ok (.iconst 0, 1) := by decide +kernel
theorem dX9_readGuestOf_19 : decode cX9_readGuestOf 19 = .ok (.iconst 0, 1) := by decide +kernel
theorem dX9_readGuestOf_20 : decode cX9_readGuestOf 20 = .ok (.iconst 3, 1) := by decide +kernel
theorem dX9_readGuestOf_21 : decode cX9_readGuestOf 21 = .ok (.invokevirtual 125, 3) := by decide +kernel
theorem dX9_readGuestOf_24 : decode cX9_readGuestOf 24 = .ok (.ifCond .eq 14, 3) := by decide +kernel
theorem dX9_readGuestOf_27 : decode cX9_readGuestOf 27 = .ok (.aload_n 0, 1) := by decide +kernel
theorem dX9_readGuestOf_28 : decode cX9_readGuestOf 28 = .ok (.iconst 1, 1) := by decide +kernel
theorem dX9_readGuestOf_29 : decode cX9_readGuestOf 29 = .ok (.iconst 0, 1) := by decide +kernel
theorem dX9_readGuestOf_30 : decode cX9_readGuestOf 30 = .ok (.bipush 9, 2) := by decide +kernel
theorem dX9_readGuestOf_32 : decode cX9_readGuestOf 32 = .ok (.invokevirtual 125, 3) := by decide +kernel
theorem dX9_readGuestOf_35 : decode cX9_readGuestOf 35 = .ok (.ifCond .ne 5, 3) := by decide +kernel
theorem dX9_readGuestOf_38 : decode cX9_readGuestOf 38 = .ok (.iconst 0, 1) := by decide +kernel
theorem dX9_readGuestOf_39 : decode cX9_readGuestOf 39 = .ok (.ireturn, 1) := by decide +kernel
theorem dX9_readGuestOf_40 : decode cX9_readGuestOf 40 = .ok (.aload_n 0, 1) := by decide +kernel
theorem dX9_readGuestOf_41 : decode cX9_readGuestOf 41 = .ok (.aload_n 0, 1) := by decide +kernel
theorem dX9_readGuestOf_42 : decode cX9_readGuestOf 42 = .ok (.getfield 37, 3) := by decide +kernel
theorem dX9_readGuestOf_45 : decode cX9_readGuestOf 45 = .ok (.iconst 0, 1) := by decide +kernel
theorem dX9_readGuestOf_46 : decode cX9_readGuestOf 46 = .ok (.iaload, 1) := by decide +kernel
theorem dX9_readGuestOf_47 : decode cX9_readGuestOf 47 = .ok (.aload_n 0, 1) := by decide +kernel
theorem dX9_readGuestOf_48 : decode cX9_readGuestOf 48 = .ok (.getfield 37, 3) := by decide +kernel
theorem dX9_readGuestOf_51 : decode cX9_readGuestOf 51 = .ok (.iconst 1, 1) := by decide +kernel
theorem dX9_readGuestOf_52 : decode cX9_readGuestOf 52 = .ok (.iaload, 1) := by decide +kernel
theorem dX9_readGuestOf_53 : decode cX9_readGuestOf 53 = .ok (.invokevirtual 76, 3) := by decide +kernel
theorem dX9_readGuestOf_56 : decode cX9_readGuestOf 56 = .ok (.iconst 1, 1) := by decide +kernel
theorem dX9_readGuestOf_57 : decode cX9_readGuestOf 57 = .ok (.ireturn, 1) := by decide +kernel
set_option maxRecDepth 20000 in
theorem ggX9_readWishOf_X9_readNumbers : GoodIn wsX9_readWishOf wsX9_readNumbers := goodIn_r _ [8, 9, 3, 10, 11, 12, 7, 13, 14, 15, 16, 17, 18, 19, 20, 21, 33, 34, 35, 36, 37, 38, 39, 40, 41, 42, 43, 44, 45, 46, 47, 48, 49, 50, 51, 52, 53, 54, 55, 56, 57, 58, 59, 60, 61, 62, 63, 64, 65, 66, 67, 68] (by decide +kernel) (by decide +kernel)
set_option maxRecDepth 20000 in
theorem gX9_readWishOf_X9_readNumbers : GoodIn wsX9_readWishOf (wsV RX9 122 RX9 yX9_readNumbers wsX9_readNumbers) := goodIn_app (goodIn_of _ (by decide +kernel)) ggX9_readWishOf_X9_readNumbers
set_option maxRecDepth 20000 in
theorem ggX9_readWishOf_X9_isTold : GoodIn wsX9_readWishOf wsX9_isTold := goodIn_r _ [25, 3, 19, 20, 7, 21, 33, 34, 35, 36, 37, 38, 39, 40, 41, 42, 43, 44, 45, 46, 47, 48, 49, 50, 51, 52, 53, 54, 55, 56, 57, 58, 59, 60, 61, 62, 63, 64, 65, 66, 67, 68] (by decide +kernel) (by decide +kernel)
set_option maxRecDepth 20000 in
theorem gX9_readWishOf_X9_isTold : GoodIn wsX9_readWishOf (wsV RX9 125 RX9 yX9_isTold wsX9_isTold) := goodIn_app (goodIn_of _ (by decide +kernel)) ggX9_readWishOf_X9_isTold
set_option maxRecDepth 20000 in
theorem ggX9_readWishOf_X9_tellsWish : GoodIn wsX9_readWishOf wsX9_tellsWish := goodIn_r _ [29, 30, 1, 31, 32, 33, 34, 35, 36, 37, 38, 39, 40, 41, 42, 43, 44, 45, 46, 47, 48, 49, 50, 51, 52, 53, 54, 55, 56, 57, 58, 59, 60, 61, 62, 63, 64, 65, 66, 67, 68] (by decide +kernel) (by decide +kernel)
set_option maxRecDepth 20000 in
theorem gX9_readWishOf_X9_tellsWish : GoodIn wsX9_readWishOf (wsV RX9 80 RX9 yX9_tellsWish wsX9_tellsWish) := goodIn_app (goodIn_of _ (by decide +kernel)) ggX9_readWishOf_X9_tellsWish
theorem dX9_readWishOf_0 : decode cX9_readWishOf 0 = .ok (.iload_n 1, 1) := by decide +kernel
theorem dX9_readWishOf_1 : decode cX9_readWishOf 1 = .ok (.iconst 2, 1) := by decide +kernel
theorem dX9_readWishOf_2 : decode cX9_readWishOf 2 = .ok (.if_icmp .ne 7, 3) := by decide +kernel
theorem dX9_readWishOf_5 : decode cX9_readWishOf 5 = .ok (.iconst 1, 1) := by decide +kernel
theorem dX9_readWishOf_6 : decode cX9_readWishOf 6 = .ok (.goto 4, 3) := by decide +kernel
theorem dX9_readWishOf_9 : decode cX9_readWishOf 9 = .ok (.iconst 2, 1) := by decide +kernel
theorem dX9_readWishOf_10 : decode cX9_readWishOf 10 = .ok (.istore_n 2, 1) := by decide +kernel
theorem dX9_readWishOf_11 : decode cX9_readWishOf 11 = .ok (.aload_n 0, 1) := by decide +kernel
theorem dX9_readWishOf_12 : decode cX9_readWishOf 12 = .ok (.getfield 94, 3) := by decide +kernel
theorem dX9_readWishOf_15 : decode cX9_readWishOf 15 = .ok (.bipush 9, 2) := by decide +kernel
theorem dX9_readWishOf_17 : decode cX9_readWishOf 17 = .ok (.if_icmp .eq 26, 3) := by decide +kernel
theorem dX9_readWishOf_20 : decode cX9_readWishOf 20 = .ok (.aload_n 0, 1) := by decide +kernel
theorem dX9_readWishOf_21 : decode cX9_readWishOf 21 = .ok (.iload_n 2, 1) := by decide +kernel
theorem dX9_readWishOf_22 : decode cX9_readWishOf 22 = .ok (.invokevirtual 122, 3) := by decide +kernel
theorem dX9_readWishOf_25 : decode cX9_readWishOf 25 = .ok (.ifCond .eq 18, 3) := by decide +kernel
theorem dX9_readWishOf_28 : decode cX9_readWishOf 28 = .ok (.aload_n 0, 1) := by decide +kernel
theorem dX9_readWishOf_29 : decode cX9_readWishOf 29 = .ok (.iconst 0, 1) := by decide +kernel
theorem dX9_readWishOf_30 : decode cX9_readWishOf 30 = .ok (.iconst 0, 1) := by decide +kernel
theorem dX9_readWishOf_31 : decode cX9_readWishOf 31 = .ok (.aload_n 0, 1) := by decide +kernel
theorem dX9_readWishOf_32 : decode cX9_readWishOf 32 = .ok (.getfield 91, 3) := by decide +kernel
theorem dX9_readWishOf_35 : decode cX9_readWishOf 35 = .ok (.iconst 1, 1) := by decide +kernel
theorem dX9_readWishOf_36 : decode cX9_readWishOf 36 = .ok (.isub, 1) := by decide +kernel
theorem dX9_readWishOf_37 : decode cX9_readWishOf 37 = .ok (.invokevirtual 125, 3) := by decide +kernel
theorem dX9_readWishOf_40 : decode cX9_readWishOf 40 = .ok (.ifCond .ne 5, 3) := by decide +kernel
theorem dX9_readWishOf_43 : decode cX9_readWishOf 43 = .ok (.iconst 0, 1) := by decide +kernel
theorem dX9_readWishOf_44 : decode cX9_readWishOf 44 = .ok (.ireturn, 1) := by decide +kernel
theorem dX9_readWishOf_45 : decode cX9_readWishOf 45 = .ok (.iload_n 1, 1) := by decide +kernel
theorem dX9_readWishOf_46 : decode cX9_readWishOf 46 = .ok (.ifCond .eq 8, 3) := by decide +kernel
theorem dX9_readWishOf_49 : decode cX9_readWishOf 49 = .ok (.iload_n 1, 1) := by decide +kernel
theorem dX9_readWishOf_50 : decode cX9_readWishOf 50 = .ok (.iconst 1, 1) := by decide +kernel
theorem dX9_readWishOf_51 : decode cX9_readWishOf 51 = .ok (.if_icmp .ne 7, 3) := by decide +kernel
theorem dX9_readWishOf_54 : decode cX9_readWishOf 54 = .ok (.iconst 1, 1) := by decide +kernel
theorem dX9_readWishOf_55 : decode cX9_readWishOf 55 = .ok (.goto 4, 3) := by decide +kernel
theorem dX9_readWishOf_58 : decode cX9_readWishOf 58 = .ok (.iconst 0, 1) := by decide +kernel
theorem dX9_readWishOf_59 : decode cX9_readWishOf 59 = .ok (.istore_n 3, 1) := by decide +kernel
theorem dX9_readWishOf_60 : decode cX9_readWishOf 60 = .ok (.iload_n 3, 1) := by decide +kernel
theorem dX9_readWishOf_61 : decode cX9_readWishOf 61 = .ok (.ifCond .eq 35, 3) := by decide +kernel
theorem dX9_readWishOf_64 : decode cX9_readWishOf 64 = .ok (.aload_n 0, 1) := by decide +kernel
theorem dX9_readWishOf_65 : decode cX9_readWishOf 65 = .ok (.iconst 1, 1) := by decide +kernel
theorem dX9_readWishOf_66 : decode cX9_readWishOf 66 = .ok (.iconst 0, 1) := by decide +kernel
theorem dX9_readWishOf_67 : decode cX9_readWishOf 67 = .ok (.aload_n 0, 1) := by decide +kernel
theorem dX9_readWishOf_68 : decode cX9_readWishOf 68 = .ok (.getfield 91, 3) := by decide +kernel
theorem dX9_readWishOf_71 : decode cX9_readWishOf 71 = .ok (.iconst 1, 1) := by decide +kernel
theorem dX9_readWishOf_72 : decode cX9_readWishOf 72 = .ok (.isub, 1) := by decide +kernel
theorem dX9_readWishOf_73 : decode cX9_readWishOf 73 = .ok (.invokevirtual 125, 3) := by decide +kernel
theorem dX9_readWishOf_76 : decode cX9_readWishOf 76 = .ok (.ifCond .eq 18, 3) := by decide +kernel
theorem dX9_readWishOf_79 : decode cX9_readWishOf 79 = .ok (.aload_n 0, 1) := by decide +kernel
theorem dX9_readWishOf_80 : decode cX9_readWishOf 80 = .ok (.getfield 37, 3) := by decide +kernel
theorem dX9_readWishOf_83 : decode cX9_readWishOf 83 = .ok (.iconst 0, 1) := by decide +kernel
theorem dX9_readWishOf_84 : decode cX9_readWishOf 84 = .ok (.iaload, 1) := by decide +kernel
theorem dX9_readWishOf_85 : decode cX9_readWishOf 85 = .ok (.aload_n 0, 1) := by decide +kernel
theorem dX9_readWishOf_86 : decode cX9_readWishOf 86 = .ok (.getfield 37, 3) := by decide +kernel
theorem dX9_readWishOf_89 : decode cX9_readWishOf 89 = .ok (.iconst 1, 1) := by decide +kernel
theorem dX9_readWishOf_90 : decode cX9_readWishOf 90 = .ok (.iaload, 1) := by decide +kernel
theorem dX9_readWishOf_91 : decode cX9_readWishOf 91 = .ok (.if_icmp .ne 5, 3) := by decide +kernel
theorem dX9_readWishOf_94 : decode cX9_readWishOf 94 = .ok (.iconst 0, 1) := by decide +kernel
theorem dX9_readWishOf_95 : decode cX9_readWishOf 95 = .ok (.ireturn, 1) := by decide +kernel
theorem dX9_readWishOf_96 : decode cX9_readWishOf 96 = .ok (.aload_n 0, 1) := by decide +kernel
theorem dX9_readWishOf_97 : decode cX9_readWishOf 97 = .ok (.iload_n 1, 1) := by decide +kernel
theorem dX9_readWishOf_98 : decode cX9_readWishOf 98 = .ok (.aload_n 0, 1) := by decide +kernel
theorem dX9_readWishOf_99 : decode cX9_readWishOf 99 = .ok (.getfield 37, 3) := by decide +kernel
theorem dX9_readWishOf_102 : decode cX9_readWishOf 102 = .ok (.iconst 0, 1) := by decide +kernel
theorem dX9_readWishOf_103 : decode cX9_readWishOf 103 = .ok (.iaload, 1) := by decide +kernel
theorem dX9_readWishOf_104 : decode cX9_readWishOf 104 = .ok (.iload_n 1, 1) := by decide +kernel
theorem dX9_readWishOf_105 : decode cX9_readWishOf 105 = .ok (.iconst 2, 1) := by decide +kernel
theorem dX9_readWishOf_106 : decode cX9_readWishOf 106 = .ok (.if_icmp .ne 8, 3) := by decide +kernel
theorem dX9_readWishOf_109 : decode cX9_readWishOf 109 = .ok (.bipush (-4), 2) := by decide +kernel
theorem dX9_readWishOf_111 : decode cX9_readWishOf 111 = .ok (.goto 9, 3) := by decide +kernel
theorem dX9_readWishOf_114 : decode cX9_readWishOf 114 = .ok (.aload_n 0, 1) := by decide +kernel
theorem dX9_readWishOf_115 : decode cX9_readWishOf 115 = .ok (.getfield 37, 3) := by decide +kernel
theorem dX9_readWishOf_118 : decode cX9_readWishOf 118 = .ok (.iconst 1, 1) := by decide +kernel
theorem dX9_readWishOf_119 : decode cX9_readWishOf 119 = .ok (.iaload, 1) := by decide +kernel
theorem dX9_readWishOf_120 : decode cX9_readWishOf 120 = .ok (.invokevirtual 80, 3) := by decide +kernel
theorem dX9_readWishOf_123 : decode cX9_readWishOf 123 = .ok (.iconst 1, 1) := by decide +kernel
theorem dX9_readWishOf_124 : decode cX9_readWishOf 124 = .ok (.ireturn, 1) := by decide +kernel
set_option maxRecDepth 20000 in
theorem ggX9_readBeginsOf_X9_readNumbers : GoodIn wsX9_readBeginsOf wsX9_readNumbers := goodIn_r _ [7, 8, 1, 9, 10, 11, 6, 12, 13, 14, 15, 16, 17, 18, 19, 20, 21, 22, 23, 24, 25, 26, 27, 28, 29, 30, 31, 32, 33, 34, 35, 36, 37, 38, 39, 40, 41, 42, 43, 44, 45, 46, 47, 48, 49, 50, 51, 52, 53, 54, 55, 56] (by decide +kernel) (by decide +kernel)
set_option maxRecDepth 20000 in
theorem gX9_readBeginsOf_X9_readNumbers : GoodIn wsX9_readBeginsOf (wsV RX9 122 RX9 yX9_readNumbers wsX9_readNumbers) := goodIn_app (goodIn_of _ (by decide +kernel)) ggX9_readBeginsOf_X9_readNumbers
theorem dX9_readBeginsOf_0 : decode cX9_readBeginsOf 0 = .ok (.aload_n 0, 1) := by decide +kernel
theorem dX9_readBeginsOf_1 : decode cX9_readBeginsOf 1 = .ok (.iconst 1, 1) := by decide +kernel
theorem dX9_readBeginsOf_2 : decode cX9_readBeginsOf 2 = .ok (.invokevirtual 122, 3) := by decide +kernel
theorem dX9_readBeginsOf_5 : decode cX9_readBeginsOf 5 = .ok (.istore_n 1, 1) := by decide +kernel
theorem dX9_readBeginsOf_6 : decode cX9_readBeginsOf 6 = .ok (.aload_n 0, 1) := by decide +kernel
theorem dX9_readBeginsOf_7 : decode cX9_readBeginsOf 7 = .ok (.iload_n 1, 1) := by decide +kernel
theorem dX9_readBeginsOf_8 : decode cX9_readBeginsOf 8 = .ok (.ifCond .eq 12, 3) := by decide +kernel
theorem dX9_readBeginsOf_11 : decode cX9_readBeginsOf 11 = .ok (.aload_n 0, 1) := by decide +kernel
theorem dX9_readBeginsOf_12 : decode cX9_readBeginsOf 12 = .ok (.getfield 37, 3) := by decide +kernel
theorem dX9_readBeginsOf_15 : decode cX9_readBeginsOf 15 = .ok (.iconst 0, 1) := by decide +kernel
theorem dX9_readBeginsOf_16 : decode cX9_readBeginsOf 16 = .ok (.iaload, 1) := by decide +kernel
theorem dX9_readBeginsOf_17 : decode cX9_readBeginsOf 17 = .ok (.goto 7, 3) := by decide +kernel
theorem dX9_readBeginsOf_20 : decode cX9_readBeginsOf 20 = .ok (.aload_n 0, 1) := by decide +kernel
theorem dX9_readBeginsOf_21 : decode cX9_readBeginsOf 21 = .ok (.getfield 84, 3) := by decide +kernel
theorem dX9_readBeginsOf_24 : decode cX9_readBeginsOf 24 = .ok (.putfield 84, 3) := by decide +kernel
theorem dX9_readBeginsOf_27 : decode cX9_readBeginsOf 27 = .ok (.iload_n 1, 1) := by decide +kernel
theorem dX9_readBeginsOf_28 : decode cX9_readBeginsOf 28 = .ok (.ireturn, 1) := by decide +kernel
set_option maxRecDepth 20000 in
theorem ggX9_readItem_X9_letterAt : GoodIn wsX9_readItem wsX9_letterAt := goodIn_r _ [6, 7, 8, 52, 53, 54, 55, 56, 57, 58, 59, 60, 61, 62, 63, 64, 65, 66, 67, 68, 69, 70, 71, 72, 73, 74, 75, 76, 77, 78, 79, 80, 81, 82, 83, 84, 85, 86, 87] (by decide +kernel) (by decide +kernel)
set_option maxRecDepth 20000 in
theorem gX9_readItem_X9_letterAt : GoodIn wsX9_readItem (wsV RX9 114 RX9 yX9_letterAt wsX9_letterAt) := goodIn_app (goodIn_of _ (by decide +kernel)) ggX9_readItem_X9_letterAt
set_option maxRecDepth 20000 in
theorem ggX9_readItem_X9_readGuestOf : GoodIn wsX9_readItem wsX9_readGuestOf := goodIn_r _ [12, 13, 14, 15, 16, 17, 5, 18, 1, 2, 3, 4, 6, 7, 8, 19, 20, 21, 22, 23, 24, 25, 26, 27, 28, 29, 30, 31, 32, 33, 34, 52, 53, 54, 55, 56, 57, 58, 59, 60, 61, 62, 63, 64, 65, 66, 67, 68, 69, 70, 71, 72, 73, 74, 75, 76, 77, 78, 79, 80, 81, 82, 83, 84, 85, 86, 87] (by decide +kernel) (by decide +kernel)
set_option maxRecDepth 20000 in
theorem gX9_readItem_X9_readGuestOf : GoodIn wsX9_readItem (wsV RX9 128 RX9 yX9_readGuestOf wsX9_readGuestOf) := goodIn_app (goodIn_of _ (by decide +kernel)) ggX9_readItem_X9_readGuestOf
set_option maxRecDepth 20000 in
theorem ggX9_readItem_X9_readWishOf : GoodIn wsX9_readItem wsX9_readWishOf := goodIn_r _ [38, 39, 13, 14, 15, 16, 17, 5, 18, 1, 2, 3, 4, 6, 7, 8, 19, 20, 21, 22, 23, 24, 25, 26, 27, 28, 40, 41, 42, 43, 44, 45, 46, 52, 53, 54, 55, 56, 57, 58, 59, 60, 61, 62, 63, 64, 65, 66, 67, 68, 69, 70, 71, 72, 73, 74, 75, 76, 77, 78, 79, 80, 81, 82, 83, 84, 85, 86, 87] (by decide +kernel) (by decide +kernel)
set_option maxRecDepth 20000 in
theorem gX9_readItem_X9_readWishOf : GoodIn wsX9_readItem (wsV RX9 132 RX9 yX9_readWishOf wsX9_readWishOf) := goodIn_app (goodIn_of _ (by decide +kernel)) ggX9_readItem_X9_readWishOf
set_option maxRecDepth 20000 in
theorem ggX9_readItem_X9_readBeginsOf : GoodIn wsX9_readItem wsX9_readBeginsOf := goodIn_r _ [50, 14, 51, 15, 16, 17, 5, 18, 1, 2, 3, 4, 6, 7, 8, 19, 20, 21, 22, 23, 24, 52, 53, 54, 55, 56, 57, 58, 59, 60, 61, 62, 63, 64, 65, 66, 67, 68, 69, 70, 71, 72, 73, 74, 75, 76, 77, 78, 79, 80, 81, 82, 83, 84, 85, 86, 87] (by decide +kernel) (by decide +kernel)
set_option maxRecDepth 20000 in
theorem gX9_readItem_X9_readBeginsOf : GoodIn wsX9_readItem (wsV RX9 135 RX9 yX9_readBeginsOf wsX9_readBeginsOf) := goodIn_app (goodIn_of _ (by decide +kernel)) ggX9_readItem_X9_readBeginsOf
theorem dX9_readItem_0 : decode cX9_readItem 0 = .ok (.aload_n 0, 1) := by decide +kernel
theorem dX9_readItem_1 : decode cX9_readItem 1 = .ok (.aload_n 0, 1) := by decide +kernel
theorem dX9_readItem_2 : decode cX9_readItem 2 = .ok (.getfield 111, 3) := by decide +kernel
theorem dX9_readItem_5 : decode cX9_readItem 5 = .ok (.invokevirtual 114, 3) := by decide +kernel
theorem dX9_readItem_8 : decode cX9_readItem 8 = .ok (.istore_n 1, 1) := by decide +kernel
theorem dX9_readItem_9 : decode cX9_readItem 9 = .ok (.aload_n 0, 1) := by decide +kernel
theorem dX9_readItem_10 : decode cX9_readItem 10 = .ok (.dup, 1) := by decide +kernel
theorem dX9_readItem_11 : decode cX9_readItem 11 = .ok (.getfield 111, 3) := by decide +kernel
theorem dX9_readItem_14 : decode cX9_readItem 14 = .ok (.iconst 1, 1) := by decide +kernel
theorem dX9_readItem_15 : decode cX9_readItem 15 = .ok (.iadd, 1) := by decide +kernel
theorem dX9_readItem_16 : decode cX9_readItem 16 = .ok (.putfield 111, 3) := by decide +kernel
theorem dX9_readItem_19 : decode cX9_readItem 19 = .ok (.iload_n 1, 1) := by decide +kernel
theorem dX9_readItem_20 : decode cX9_readItem 20 = .ok (.tableswitch 140 97 117 #[111, 105, 140, 140, 140, 117, 100, 140, 140, 140, 140, 140, 140, 123, 140, 140, 140, 140, 135, 140, 129], 100) := by decide +kernel
theorem dX9_readItem_120 : decode cX9_readItem 120 = .ok (.aload_n 0, 1) := by decide +kernel
theorem dX9_readItem_121 : decode cX9_readItem 121 = .ok (.invokevirtual 128, 3) := by decide +kernel
theorem dX9_readItem_124 : decode cX9_readItem 124 = .ok (.ireturn, 1) := by decide +kernel
theorem dX9_readItem_125 : decode cX9_readItem 125 = .ok (.aload_n 0, 1) := by decide +kernel
theorem dX9_readItem_126 : decode cX9_readItem 126 = .ok (.iconst 0, 1) := by decide +kernel
theorem dX9_readItem_127 : decode cX9_readItem 127 = .ok (.invokevirtual 132, 3) := by decide +kernel
theorem dX9_readItem_130 : decode cX9_readItem 130 = .ok (.ireturn, 1) := by decide +kernel
theorem dX9_readItem_131 : decode cX9_readItem 131 = .ok (.aload_n 0, 1) := by decide +kernel
theorem dX9_readItem_132 : decode cX9_readItem 132 = .ok (.iconst 1, 1) := by decide +kernel
theorem dX9_readItem_133 : decode cX9_readItem 133 = .ok (.invokevirtual 132, 3) := by decide +kernel
theorem dX9_readItem_136 : decode cX9_readItem 136 = .ok (.ireturn, 1) := by decide +kernel
theorem dX9_readItem_137 : decode cX9_readItem 137 = .ok (.aload_n 0, 1) := by decide +kernel
theorem dX9_readItem_138 : decode cX9_readItem 138 = .ok (.iconst 2, 1) := by decide +kernel
theorem dX9_readItem_139 : decode cX9_readItem 139 = .ok (.invokevirtual 132, 3) := by decide +kernel
theorem dX9_readItem_142 : decode cX9_readItem 142 = .ok (.ireturn, 1) := by decide +kernel
theorem dX9_readItem_143 : decode cX9_readItem 143 = .ok (.aload_n 0, 1) := by decide +kernel
theorem dX9_readItem_144 : decode cX9_readItem 144 = .ok (.iconst 3, 1) := by decide +kernel
theorem dX9_readItem_145 : decode cX9_readItem 145 = .ok (.invokevirtual 132, 3) := by decide +kernel
theorem dX9_readItem_148 : decode cX9_readItem 148 = .ok (.ireturn, 1) := by decide +kernel
theorem dX9_readItem_149 : decode cX9_readItem 149 = .ok (.aload_n 0, 1) := by decide +kernel
theorem dX9_readItem_150 : decode cX9_readItem 150 = .ok (.iconst 4, 1) := by decide +kernel
theorem dX9_readItem_151 : decode cX9_readItem 151 = .ok (.invokevirtual 132, 3) := by decide +kernel
theorem dX9_readItem_154 : decode cX9_readItem 154 = .ok (.ireturn, 1) := by decide +kernel
theorem dX9_readItem_155 : decode cX9_readItem 155 = .ok (.aload_n 0, 1) := by decide +kernel
theorem dX9_readItem_156 : decode cX9_readItem 156 = .ok (.invokevirtual 135, 3) := by decide +kernel
theorem dX9_readItem_159 : decode cX9_readItem 159 = .ok (.ireturn, 1) := by decide +kernel
theorem dX9_readItem_160 : decode cX9_readItem 160 = .ok (.iconst 0, 1) := by decide +kernel
theorem dX9_readItem_161 : decode cX9_readItem 161 = .ok (.ireturn, 1) := by decide +kernel
set_option maxRecDepth 20000 in
theorem ggX9_fault_X9_clearTold : GoodIn wsX9_fault wsX9_clearTold := goodIn_r _ [7, 8, 9, 10, 60, 61, 62, 63, 64, 65, 66, 67, 68, 69, 70, 71, 72, 73, 74, 75, 76, 77, 78, 79, 80, 81, 82, 83, 84, 85, 86, 87, 88, 89, 90, 91, 92, 93, 94, 95] (by decide +kernel) (by decide +kernel)
set_option maxRecDepth 20000 in
theorem gX9_fault_X9_clearTold : GoodIn wsX9_fault (wsV RX9 73 RX9 yX9_clearTold wsX9_clearTold) := goodIn_app (goodIn_of _ (by decide +kernel)) ggX9_fault_X9_clearTold
set_option maxRecDepth 20000 in
theorem ggX9_fault_X9_readItem : GoodIn wsX9_fault wsX9_readItem := goodIn_r _ [14, 1, 15, 16, 17, 6, 18, 2, 19, 20, 21, 22, 23, 8, 24, 25, 26, 27, 28, 29, 30, 31, 32, 33, 34, 35, 36, 37, 38, 39, 40, 41, 42, 43, 44, 45, 46, 47, 48, 9, 49, 50, 51, 52, 53, 54, 55, 56, 57, 58, 59, 10, 60, 61, 62, 63, 64, 65, 66, 67, 68, 69, 70, 71, 72, 73, 74, 75, 76, 77, 78, 79, 80, 81, 82, 83, 84, 85, 86, 87, 88, 89, 90, 91, 92, 93, 94, 95] (by decide +kernel) (by decide +kernel)
set_option maxRecDepth 20000 in
theorem gX9_fault_X9_readItem : GoodIn wsX9_fault (wsV RX9 138 RX9 yX9_readItem wsX9_readItem) := goodIn_app (goodIn_of _ (by decide +kernel)) ggX9_fault_X9_readItem
theorem dX9_fault_0 : decode cX9_fault 0 = .ok (.aload_n 0, 1) := by decide +kernel
theorem dX9_fault_1 : decode cX9_fault 1 = .ok (.iconst 0, 1) := by decide +kernel
theorem dX9_fault_2 : decode cX9_fault 2 = .ok (.putfield 111, 3) := by decide +kernel
theorem dX9_fault_5 : decode cX9_fault 5 = .ok (.aload_n 0, 1) := by decide +kernel
theorem dX9_fault_6 : decode cX9_fault 6 = .ok (.invokevirtual 73, 3) := by decide +kernel
theorem dX9_fault_9 : decode cX9_fault 9 = .ok (.aload_n 0, 1) := by decide +kernel
theorem dX9_fault_10 : decode cX9_fault 10 = .ok (.getfield 111, 3) := by decide +kernel
theorem dX9_fault_13 : decode cX9_fault 13 = .ok (.aload_n 0, 1) := by decide +kernel
theorem dX9_fault_14 : decode cX9_fault 14 = .ok (.getfield 108, 3) := by decide +kernel
theorem dX9_fault_17 : decode cX9_fault 17 = .ok (.if_icmp .ge 20, 3) := by decide +kernel
theorem dX9_fault_20 : decode cX9_fault 20 = .ok (.aload_n 0, 1) := by decide +kernel
theorem dX9_fault_21 : decode cX9_fault 21 = .ok (.getfield 111, 3) := by decide +kernel
theorem dX9_fault_24 : decode cX9_fault 24 = .ok (.istore_n 1, 1) := by decide +kernel
theorem dX9_fault_25 : decode cX9_fault 25 = .ok (.aload_n 0, 1) := by decide +kernel
theorem dX9_fault_26 : decode cX9_fault 26 = .ok (.invokevirtual 138, 3) := by decide +kernel
theorem dX9_fault_29 : decode cX9_fault 29 = .ok (.ifCond .ne 5, 3) := by decide +kernel
theorem dX9_fault_32 : decode cX9_fault 32 = .ok (.iload_n 1, 1) := by decide +kernel
theorem dX9_fault_33 : decode cX9_fault 33 = .ok (.ireturn, 1) := by decide +kernel
theorem dX9_fault_34 : decode cX9_fault 34 = .ok (.goto (-25), 3) := by decide +kernel
theorem dX9_fault_37 : decode cX9_fault 37 = .ok (.bipush (-4), 2) := by decide +kernel
theorem dX9_fault_39 : decode cX9_fault 39 = .ok (.ireturn, 1) := by decide +kernel
set_option maxRecDepth 20000 in
theorem ggX9_lay_X9_fault : GoodIn wsX9_lay wsX9_fault := goodIn_r _ [7, 8, 9, 10, 11, 12, 6, 13, 1, 14, 15, 16, 17, 18, 19, 20, 21, 22, 23, 24, 25, 26, 27, 28, 29, 30, 31, 32, 33, 34, 35, 36, 37, 38, 39, 40, 41, 42, 43, 44, 45, 46, 47, 48, 49, 50, 51, 52, 53, 54, 55, 56, 57, 58, 59, 60, 61, 62, 63, 64, 79, 80, 81, 82, 83, 84, 85, 86, 87, 88, 89, 90, 91, 92, 93, 94, 95, 96, 97, 98, 99, 100, 101, 102, 103, 104, 105, 106, 107, 108, 109, 110, 111, 112, 113, 114] (by decide +kernel) (by decide +kernel)
set_option maxRecDepth 20000 in
theorem gX9_lay_X9_fault : GoodIn wsX9_lay (wsV RX9 141 RX9 yX9_fault wsX9_fault) := goodIn_app (goodIn_of _ (by decide +kernel)) ggX9_lay_X9_fault
set_option maxRecDepth 20000 in
theorem ggX9_lay_X9_settles : GoodIn wsX9_lay wsX9_settles := goodIn_r _ [68, 1, 2, 14, 69, 15, 70, 71, 48, 72, 49, 73, 58, 74, 59, 75, 60, 76, 77, 78, 79, 80, 81, 82, 83, 84, 85, 86, 87, 88, 89, 90, 91, 92, 93, 94, 95, 96, 97, 98, 99, 100, 101, 102, 103, 104, 105, 106, 107, 108, 109, 110, 111, 112, 113, 114] (by decide +kernel) (by decide +kernel)
set_option maxRecDepth 20000 in
theorem gX9_lay_X9_settles : GoodIn wsX9_lay (wsV RX9 88 RX9 yX9_settles wsX9_settles) := goodIn_app (goodIn_of _ (by decide +kernel)) ggX9_lay_X9_settles
theorem dX9_lay_0 : decode cX9_lay 0 = .ok (.aload_n 0, 1) := by decide +kernel
theorem dX9_lay_1 : decode cX9_lay 1 = .ok (.invokevirtual 141, 3) := by decide +kernel
theorem dX9_lay_4 : decode cX9_lay 4 = .ok (.bipush (-4), 2) := by decide +kernel
theorem dX9_lay_6 : decode cX9_lay 6 = .ok (.if_icmp .ne 10, 3) := by decide +kernel
theorem dX9_lay_9 : decode cX9_lay 9 = .ok (.aload_n 0, 1) := by decide +kernel
theorem dX9_lay_10 : decode cX9_lay 10 = .ok (.getfield 91, 3) := by decide +kernel
theorem dX9_lay_13 : decode cX9_lay 13 = .ok (.ifCond .ne 6, 3) := by decide +kernel
theorem dX9_lay_16 : decode cX9_lay 16 = .ok (.bipush (-2), 2) := by decide +kernel
theorem dX9_lay_18 : decode cX9_lay 18 = .ok (.ireturn, 1) := by decide +kernel
theorem dX9_lay_19 : decode cX9_lay 19 = .ok (.aload_n 0, 1) := by decide +kernel
theorem dX9_lay_20 : decode cX9_lay 20 = .ok (.invokevirtual 88, 3) := by decide +kernel
theorem dX9_lay_23 : decode cX9_lay 23 = .ok (.aload_n 0, 1) := by decide +kernel
theorem dX9_lay_24 : decode cX9_lay 24 = .ok (.getfield 97, 3) := by decide +kernel
theorem dX9_lay_27 : decode cX9_lay 27 = .ok (.ireturn, 1) := by decide +kernel
theorem dX9_settles_0 : decode cX9_settles 0 = .ok (.aload_n 0, 1) := by decide +kernel
theorem dX9_settles_1 : decode cX9_settles 1 = .ok (.aload_n 0, 1) := by decide +kernel
theorem dX9_settles_2 : decode cX9_settles 2 = .ok (.getfield 91, 3) := by decide +kernel
theorem dX9_settles_5 : decode cX9_settles 5 = .ok (.putfield 97, 3) := by decide +kernel
theorem dX9_settles_8 : decode cX9_settles 8 = .ok (.aload_n 0, 1) := by decide +kernel
theorem dX9_settles_9 : decode cX9_settles 9 = .ok (.aload_n 0, 1) := by decide +kernel
theorem dX9_settles_10 : decode cX9_settles 10 = .ok (.getfield 94, 3) := by decide +kernel
theorem dX9_settles_13 : decode cX9_settles 13 = .ok (.putfield 145, 3) := by decide +kernel
theorem dX9_settles_16 : decode cX9_settles 16 = .ok (.aload_n 0, 1) := by decide +kernel
theorem dX9_settles_17 : decode cX9_settles 17 = .ok (.aload_n 0, 1) := by decide +kernel
theorem dX9_settles_18 : decode cX9_settles 18 = .ok (.getfield 84, 3) := by decide +kernel
theorem dX9_settles_21 : decode cX9_settles 21 = .ok (.putfield 148, 3) := by decide +kernel
theorem dX9_settles_24 : decode cX9_settles 24 = .ok (.iconst 0, 1) := by decide +kernel
theorem dX9_settles_25 : decode cX9_settles 25 = .ok (.istore_n 1, 1) := by decide +kernel
theorem dX9_settles_26 : decode cX9_settles 26 = .ok (.iload_n 1, 1) := by decide +kernel
theorem dX9_settles_27 : decode cX9_settles 27 = .ok (.aload_n 0, 1) := by decide +kernel
theorem dX9_settles_28 : decode cX9_settles 28 = .ok (.getfield 97, 3) := by decide +kernel
theorem dX9_settles_31 : decode cX9_settles 31 = .ok (.if_icmp .ge 35, 3) := by decide +kernel
theorem dX9_settles_34 : decode cX9_settles 34 = .ok (.aload_n 0, 1) := by decide +kernel
theorem dX9_settles_35 : decode cX9_settles 35 = .ok (.getfield 7, 3) := by decide +kernel
theorem dX9_settles_38 : decode cX9_settles 38 = .ok (.iload_n 1, 1) := by decide +kernel
theorem dX9_settles_39 : decode cX9_settles 39 = .ok (.aload_n 0, 1) := by decide +kernel
theorem dX9_settles_40 : decode cX9_settles 40 = .ok (.getfield 40, 3) := by decide +kernel
theorem dX9_settles_43 : decode cX9_settles 43 = .ok (.iload_n 1, 1) := by decide +kernel
theorem dX9_settles_44 : decode cX9_settles 44 = .ok (.iaload, 1) := by decide +kernel
theorem dX9_settles_45 : decode cX9_settles 45 = .ok (.iastore, 1) := by decide +kernel
theorem dX9_settles_46 : decode cX9_settles 46 = .ok (.aload_n 0, 1) := by decide +kernel
theorem dX9_settles_47 : decode cX9_settles 47 = .ok (.getfield 22, 3) := by decide +kernel
theorem dX9_settles_50 : decode cX9_settles 50 = .ok (.iconst 2, 1) := by decide +kernel
theorem dX9_settles_51 : decode cX9_settles 51 = .ok (.iload_n 1, 1) := by decide +kernel
theorem dX9_settles_52 : decode cX9_settles 52 = .ok (.iadd, 1) := by decide +kernel
theorem dX9_settles_53 : decode cX9_settles 53 = .ok (.aload_n 0, 1) := by decide +kernel
theorem dX9_settles_54 : decode cX9_settles 54 = .ok (.getfield 43, 3) := by decide +kernel
theorem dX9_settles_57 : decode cX9_settles 57 = .ok (.iload_n 1, 1) := by decide +kernel
theorem dX9_settles_58 : decode cX9_settles 58 = .ok (.iaload, 1) := by decide +kernel
theorem dX9_settles_59 : decode cX9_settles 59 = .ok (.iastore, 1) := by decide +kernel
theorem dX9_settles_60 : decode cX9_settles 60 = .ok (.iinc 1 1, 3) := by decide +kernel
theorem dX9_settles_63 : decode cX9_settles 63 = .ok (.goto (-37), 3) := by decide +kernel
theorem dX9_settles_66 : decode cX9_settles 66 = .ok (.iconst 0, 1) := by decide +kernel
theorem dX9_settles_67 : decode cX9_settles 67 = .ok (.istore_n 1, 1) := by decide +kernel
theorem dX9_settles_68 : decode cX9_settles 68 = .ok (.iload_n 1, 1) := by decide +kernel
theorem dX9_settles_69 : decode cX9_settles 69 = .ok (.aload_n 0, 1) := by decide +kernel
theorem dX9_settles_70 : decode cX9_settles 70 = .ok (.getfield 145, 3) := by decide +kernel
theorem dX9_settles_73 : decode cX9_settles 73 = .ok (.if_icmp .ge 45, 3) := by decide +kernel
theorem dX9_settles_76 : decode cX9_settles 76 = .ok (.aload_n 0, 1) := by decide +kernel
theorem dX9_settles_77 : decode cX9_settles 77 = .ok (.getfield 13, 3) := by decide +kernel
theorem dX9_settles_80 : decode cX9_settles 80 = .ok (.iload_n 1, 1) := by decide +kernel
theorem dX9_settles_81 : decode cX9_settles 81 = .ok (.aload_n 0, 1) := by decide +kernel
theorem dX9_settles_82 : decode cX9_settles 82 = .ok (.getfield 46, 3) := by decide +kernel
theorem dX9_settles_85 : decode cX9_settles 85 = .ok (.iload_n 1, 1) := by decide +kernel
theorem dX9_settles_86 : decode cX9_settles 86 = .ok (.iaload, 1) := by decide +kernel
theorem dX9_settles_87 : decode cX9_settles 87 = .ok (.iastore, 1) := by decide +kernel
theorem dX9_settles_88 : decode cX9_settles 88 = .ok (.aload_n 0, 1) := by decide +kernel
theorem dX9_settles_89 : decode cX9_settles 89 = .ok (.getfield 16, 3) := by decide +kernel
theorem dX9_settles_92 : decode cX9_settles 92 = .ok (.iload_n 1, 1) := by decide +kernel
theorem dX9_settles_93 : decode cX9_settles 93 = .ok (.aload_n 0, 1) := by decide +kernel
theorem dX9_settles_94 : decode cX9_settles 94 = .ok (.getfield 49, 3) := by decide +kernel
theorem dX9_settles_97 : decode cX9_settles 97 = .ok (.iload_n 1, 1) := by decide +kernel
theorem dX9_settles_98 : decode cX9_settles 98 = .ok (.iaload, 1) := by decide +kernel
theorem dX9_settles_99 : decode cX9_settles 99 = .ok (.iastore, 1) := by decide +kernel
theorem dX9_settles_100 : decode cX9_settles 100 = .ok (.aload_n 0, 1) := by decide +kernel
theorem dX9_settles_101 : decode cX9_settles 101 = .ok (.getfield 19, 3) := by decide +kernel
theorem dX9_settles_104 : decode cX9_settles 104 = .ok (.iload_n 1, 1) := by decide +kernel
theorem dX9_settles_105 : decode cX9_settles 105 = .ok (.aload_n 0, 1) := by decide +kernel
theorem dX9_settles_106 : decode cX9_settles 106 = .ok (.getfield 52, 3) := by decide +kernel
theorem dX9_settles_109 : decode cX9_settles 109 = .ok (.iload_n 1, 1) := by decide +kernel
theorem dX9_settles_110 : decode cX9_settles 110 = .ok (.iaload, 1) := by decide +kernel
theorem dX9_settles_111 : decode cX9_settles 111 = .ok (.iastore, 1) := by decide +kernel
theorem dX9_settles_112 : decode cX9_settles 112 = .ok (.iinc 1 1, 3) := by decide +kernel
theorem dX9_settles_115 : decode cX9_settles 115 = .ok (.goto (-47), 3) := by decide +kernel
theorem dX9_settles_118 : decode cX9_settles 118 = .ok (.aload_n 0, 1) := by decide +kernel
theorem dX9_settles_119 : decode cX9_settles 119 = .ok (.getfield 22, 3) := by decide +kernel
theorem dX9_settles_122 : decode cX9_settles 122 = .ok (.iconst 0, 1) := by decide +kernel
theorem dX9_settles_123 : decode cX9_settles 123 = .ok (.iconst 1, 1) := by decide +kernel
theorem dX9_settles_124 : decode cX9_settles 124 = .ok (.aload_n 0, 1) := by decide +kernel
theorem dX9_settles_125 : decode cX9_settles 125 = .ok (.getfield 97, 3) := by decide +kernel
theorem dX9_settles_128 : decode cX9_settles 128 = .ok (.ishl, 1) := by decide +kernel
theorem dX9_settles_129 : decode cX9_settles 129 = .ok (.iconst 1, 1) := by decide +kernel
theorem dX9_settles_130 : decode cX9_settles 130 = .ok (.isub, 1) := by decide +kernel
theorem dX9_settles_131 : decode cX9_settles 131 = .ok (.iastore, 1) := by decide +kernel
theorem dX9_settles_132 : decode cX9_settles 132 = .ok (.aload_n 0, 1) := by decide +kernel
theorem dX9_settles_133 : decode cX9_settles 133 = .ok (.getfield 22, 3) := by decide +kernel
theorem dX9_settles_136 : decode cX9_settles 136 = .ok (.iconst 1, 1) := by decide +kernel
theorem dX9_settles_137 : decode cX9_settles 137 = .ok (.iconst 0, 1) := by decide +kernel
theorem dX9_settles_138 : decode cX9_settles 138 = .ok (.iastore, 1) := by decide +kernel
theorem dX9_settles_139 : decode cX9_settles 139 = .ok (.aload_n 0, 1) := by decide +kernel
theorem dX9_settles_140 : decode cX9_settles 140 = .ok (.iconst 0, 1) := by decide +kernel
theorem dX9_settles_141 : decode cX9_settles 141 = .ok (.putfield 151, 3) := by decide +kernel
theorem dX9_settles_144 : decode cX9_settles 144 = .ok (.aload_n 0, 1) := by decide +kernel
theorem dX9_settles_145 : decode cX9_settles 145 = .ok (.iconst 0, 1) := by decide +kernel
theorem dX9_settles_146 : decode cX9_settles 146 = .ok (.putfield 154, 3) := by decide +kernel
theorem dX9_settles_149 : decode cX9_settles 149 = .ok (.aload_n 0, 1) := by decide +kernel
theorem dX9_settles_150 : decode cX9_settles 150 = .ok (.iconst 0, 1) := by decide +kernel
theorem dX9_settles_151 : decode cX9_settles 151 = .ok (.putfield 157, 3) := by decide +kernel
theorem dX9_settles_154 : decode cX9_settles 154 = .ok (.return_, 1) := by decide +kernel
theorem dX9_wakes_0 : decode cX9_wakes 0 = .ok (.aload_n 0, 1) := by decide +kernel
theorem dX9_wakes_1 : decode cX9_wakes 1 = .ok (.getfield 7, 3) := by decide +kernel
theorem dX9_wakes_4 : decode cX9_wakes 4 = .ok (.iload_n 1, 1) := by decide +kernel
theorem dX9_wakes_5 : decode cX9_wakes 5 = .ok (.iaload, 1) := by decide +kernel
theorem dX9_wakes_6 : decode cX9_wakes 6 = .ok (.tableswitch 41 1 3 #[26, 28, 30], 26) := by decide +kernel
theorem dX9_wakes_32 : decode cX9_wakes 32 = .ok (.iconst 3, 1) := by decide +kernel
theorem dX9_wakes_33 : decode cX9_wakes 33 = .ok (.ireturn, 1) := by decide +kernel
theorem dX9_wakes_34 : decode cX9_wakes 34 = .ok (.iconst 0, 1) := by decide +kernel
theorem dX9_wakes_35 : decode cX9_wakes 35 = .ok (.ireturn, 1) := by decide +kernel
theorem dX9_wakes_36 : decode cX9_wakes 36 = .ok (.iconst 2, 1) := by decide +kernel
theorem dX9_wakes_37 : decode cX9_wakes 37 = .ok (.aload_n 0, 1) := by decide +kernel
theorem dX9_wakes_38 : decode cX9_wakes 38 = .ok (.getfield 22, 3) := by decide +kernel
theorem dX9_wakes_41 : decode cX9_wakes 41 = .ok (.iconst 2, 1) := by decide +kernel
theorem dX9_wakes_42 : decode cX9_wakes 42 = .ok (.iload_n 1, 1) := by decide +kernel
theorem dX9_wakes_43 : decode cX9_wakes 43 = .ok (.iadd, 1) := by decide +kernel
theorem dX9_wakes_44 : decode cX9_wakes 44 = .ok (.iaload, 1) := by decide +kernel
theorem dX9_wakes_45 : decode cX9_wakes 45 = .ok (.iadd, 1) := by decide +kernel
theorem dX9_wakes_46 : decode cX9_wakes 46 = .ok (.ireturn, 1) := by decide +kernel
theorem dX9_wakes_47 : decode cX9_wakes 47 = .ok (.iconst 1, 1) := by decide +kernel
theorem dX9_wakes_48 : decode cX9_wakes 48 = .ok (.ireturn, 1) := by decide +kernel
set_option maxRecDepth 20000 in
theorem ggX9_guest_X9_isGuest : GoodIn wsX9_guest wsX9_isGuest := goodIn_r _ [7, 8, 9, 10, 6, 11, 16, 17, 18, 19, 20, 21, 22, 23, 24, 25, 26, 27, 28, 29, 30, 31, 32, 33, 34, 35, 36, 37, 38, 39, 40, 41, 42, 43, 44, 45, 46, 47, 48, 49, 50, 51] (by decide +kernel) (by decide +kernel)
set_option maxRecDepth 20000 in
theorem gX9_guest_X9_isGuest : GoodIn wsX9_guest (wsV RX9 160 RX9 yX9_isGuest wsX9_isGuest) := goodIn_app (goodIn_of _ (by decide +kernel)) ggX9_guest_X9_isGuest
set_option maxRecDepth 20000 in
theorem ggX9_guest_X9_wakes : GoodIn wsX9_guest wsX9_wakes := goodIn_r _ [15, 1, 2, 16, 17, 18, 19, 20, 21, 22, 23, 24, 25, 26, 27, 28, 29, 30, 31, 32, 33, 34, 35, 36, 37, 38, 39, 40, 41, 42, 43, 44, 45, 46, 47, 48, 49, 50, 51] (by decide +kernel) (by decide +kernel)
set_option maxRecDepth 20000 in
theorem gX9_guest_X9_wakes : GoodIn wsX9_guest (wsV RX9 163 RX9 yX9_wakes wsX9_wakes) := goodIn_app (goodIn_of _ (by decide +kernel)) ggX9_guest_X9_wakes
theorem dX9_guest_0 : decode cX9_guest 0 = .ok (.aload_n 0, 1) := by decide +kernel
theorem dX9_guest_1 : decode cX9_guest 1 = .ok (.iload_n 1, 1) := by decide +kernel
theorem dX9_guest_2 : decode cX9_guest 2 = .ok (.invokevirtual 160, 3) := by decide +kernel
theorem dX9_guest_5 : decode cX9_guest 5 = .ok (.ifCond .ne 5, 3) := by decide +kernel
theorem dX9_guest_8 : decode cX9_guest 8 = .ok (.iconst (-1), 1) := by decide +kernel
theorem dX9_guest_9 : decode cX9_guest 9 = .ok (.ireturn, 1) := by decide +kernel
theorem dX9_guest_10 : decode cX9_guest 10 = .ok (.iload_n 2, 1) := by decide +kernel
theorem dX9_guest_11 : decode cX9_guest 11 = .ok (.tableswitch 62 0 3 #[29, 36, 45, 56], 29) := by decide +kernel
theorem dX9_guest_40 : decode cX9_guest 40 = .ok (.aload_n 0, 1) := by decide +kernel
theorem dX9_guest_41 : decode cX9_guest 41 = .ok (.getfield 7, 3) := by decide +kernel
theorem dX9_guest_44 : decode cX9_guest 44 = .ok (.iload_n 1, 1) := by decide +kernel
theorem dX9_guest_45 : decode cX9_guest 45 = .ok (.iaload, 1) := by decide +kernel
theorem dX9_guest_46 : decode cX9_guest 46 = .ok (.ireturn, 1) := by decide +kernel
theorem dX9_guest_47 : decode cX9_guest 47 = .ok (.aload_n 0, 1) := by decide +kernel
theorem dX9_guest_48 : decode cX9_guest 48 = .ok (.getfield 22, 3) := by decide +kernel
theorem dX9_guest_51 : decode cX9_guest 51 = .ok (.iconst 2, 1) := by decide +kernel
theorem dX9_guest_52 : decode cX9_guest 52 = .ok (.iload_n 1, 1) := by decide +kernel
theorem dX9_guest_53 : decode cX9_guest 53 = .ok (.iadd, 1) := by decide +kernel
theorem dX9_guest_54 : decode cX9_guest 54 = .ok (.iaload, 1) := by decide +kernel
theorem dX9_guest_55 : decode cX9_guest 55 = .ok (.ireturn, 1) := by decide +kernel
theorem dX9_guest_56 : decode cX9_guest 56 = .ok (.aload_n 0, 1) := by decide +kernel
theorem dX9_guest_57 : decode cX9_guest 57 = .ok (.getfield 22, 3) := by decide +kernel
theorem dX9_guest_60 : decode cX9_guest 60 = .ok (.iconst 0, 1) := by decide +kernel
theorem dX9_guest_61 : decode cX9_guest 61 = .ok (.iaload, 1) := by decide +kernel
theorem dX9_guest_62 : decode cX9_guest 62 = .ok (.iload_n 1, 1) := by decide +kernel
theorem dX9_guest_63 : decode cX9_guest 63 = .ok (.ishr, 1) := by decide +kernel
theorem dX9_guest_64 : decode cX9_guest 64 = .ok (.iconst 1, 1) := by decide +kernel
theorem dX9_guest_65 : decode cX9_guest 65 = .ok (.iand, 1) := by decide +kernel
theorem dX9_guest_66 : decode cX9_guest 66 = .ok (.ireturn, 1) := by decide +kernel
theorem dX9_guest_67 : decode cX9_guest 67 = .ok (.aload_n 0, 1) := by decide +kernel
theorem dX9_guest_68 : decode cX9_guest 68 = .ok (.iload_n 1, 1) := by decide +kernel
theorem dX9_guest_69 : decode cX9_guest 69 = .ok (.invokevirtual 163, 3) := by decide +kernel
theorem dX9_guest_72 : decode cX9_guest 72 = .ok (.ireturn, 1) := by decide +kernel
theorem dX9_guest_73 : decode cX9_guest 73 = .ok (.iconst (-1), 1) := by decide +kernel
theorem dX9_guest_74 : decode cX9_guest 74 = .ok (.ireturn, 1) := by decide +kernel
theorem dX9_isOfTwo_0 : decode cX9_isOfTwo 0 = .ok (.aload_n 0, 1) := by decide +kernel
theorem dX9_isOfTwo_1 : decode cX9_isOfTwo 1 = .ok (.getfield 13, 3) := by decide +kernel
theorem dX9_isOfTwo_4 : decode cX9_isOfTwo 4 = .ok (.iload_n 1, 1) := by decide +kernel
theorem dX9_isOfTwo_5 : decode cX9_isOfTwo 5 = .ok (.iaload, 1) := by decide +kernel
theorem dX9_isOfTwo_6 : decode cX9_isOfTwo 6 = .ok (.ifCond .eq 13, 3) := by decide +kernel
theorem dX9_isOfTwo_9 : decode cX9_isOfTwo 9 = .ok (.aload_n 0, 1) := by decide +kernel
theorem dX9_isOfTwo_10 : decode cX9_isOfTwo 10 = .ok (.getfield 13, 3) := by decide +kernel
theorem dX9_isOfTwo_13 : decode cX9_isOfTwo 13 = .ok (.iload_n 1, 1) := by decide +kernel
theorem dX9_isOfTwo_14 : decode cX9_isOfTwo 14 = .ok (.iaload, 1) := by decide +kernel
theorem dX9_isOfTwo_15 : decode cX9_isOfTwo 15 = .ok (.iconst 1, 1) := by decide +kernel
theorem dX9_isOfTwo_16 : decode cX9_isOfTwo 16 = .ok (.if_icmp .ne 7, 3) := by decide +kernel
theorem dX9_isOfTwo_19 : decode cX9_isOfTwo 19 = .ok (.iconst 1, 1) := by decide +kernel
theorem dX9_isOfTwo_20 : decode cX9_isOfTwo 20 = .ok (.goto 4, 3) := by decide +kernel
theorem dX9_isOfTwo_23 : decode cX9_isOfTwo 23 = .ok (.iconst 0, 1) := by decide +kernel
theorem dX9_isOfTwo_24 : decode cX9_isOfTwo 24 = .ok (.ireturn, 1) := by decide +kernel
set_option maxRecDepth 20000 in
theorem ggX9_standing_X9_has : GoodIn wsX9_standing wsX9_has := goodIn_r _ [8] (by decide +kernel) (by decide +kernel)
set_option maxRecDepth 20000 in
theorem gX9_standing_X9_has : GoodIn wsX9_standing (va_wsS RX9 104 yX9_has wsX9_has) := goodIn_app (goodIn_of _ (by decide +kernel)) ggX9_standing_X9_has
set_option maxRecDepth 20000 in
theorem ggX9_standing_X9_isOfTwo : GoodIn wsX9_standing wsX9_isOfTwo := goodIn_r _ [12, 13, 14, 15, 16, 17, 18, 19, 20, 21, 22, 23, 24, 25, 26, 27, 28, 29, 30, 31, 32, 33, 34, 35, 36, 37, 38, 39, 40, 41, 42, 43, 44, 45, 46, 47, 48, 49] (by decide +kernel) (by decide +kernel)
set_option maxRecDepth 20000 in
theorem gX9_standing_X9_isOfTwo : GoodIn wsX9_standing (wsV RX9 166 RX9 yX9_isOfTwo wsX9_isOfTwo) := goodIn_app (goodIn_of _ (by decide +kernel)) ggX9_standing_X9_isOfTwo
theorem dX9_standing_0 : decode cX9_standing 0 = .ok (.iconst 0, 1) := by decide +kernel
theorem dX9_standing_1 : decode cX9_standing 1 = .ok (.istore_n 2, 1) := by decide +kernel
theorem dX9_standing_2 : decode cX9_standing 2 = .ok (.iconst 0, 1) := by decide +kernel
theorem dX9_standing_3 : decode cX9_standing 3 = .ok (.istore_n 3, 1) := by decide +kernel
theorem dX9_standing_4 : decode cX9_standing 4 = .ok (.iload_n 3, 1) := by decide +kernel
theorem dX9_standing_5 : decode cX9_standing 5 = .ok (.aload_n 0, 1) := by decide +kernel
theorem dX9_standing_6 : decode cX9_standing 6 = .ok (.getfield 145, 3) := by decide +kernel
theorem dX9_standing_9 : decode cX9_standing 9 = .ok (.if_icmp .ge 78, 3) := by decide +kernel
theorem dX9_standing_12 : decode cX9_standing 12 = .ok (.aload_n 0, 1) := by decide +kernel
theorem dX9_standing_13 : decode cX9_standing 13 = .ok (.getfield 22, 3) := by decide +kernel
theorem dX9_standing_16 : decode cX9_standing 16 = .ok (.iconst 1, 1) := by decide +kernel
theorem dX9_standing_17 : decode cX9_standing 17 = .ok (.iaload, 1) := by decide +kernel
theorem dX9_standing_18 : decode cX9_standing 18 = .ok (.iload_n 3, 1) := by decide +kernel
theorem dX9_standing_19 : decode cX9_standing 19 = .ok (.invokestatic 104, 3) := by decide +kernel
theorem dX9_standing_22 : decode cX9_standing 22 = .ok (.ifCond .ne 41, 3) := by decide +kernel
theorem dX9_standing_25 : decode cX9_standing 25 = .ok (.iload_n 1, 1) := by decide +kernel
theorem dX9_standing_26 : decode cX9_standing 26 = .ok (.aload_n 0, 1) := by decide +kernel
theorem dX9_standing_27 : decode cX9_standing 27 = .ok (.getfield 16, 3) := by decide +kernel
theorem dX9_standing_30 : decode cX9_standing 30 = .ok (.iload_n 3, 1) := by decide +kernel
theorem dX9_standing_31 : decode cX9_standing 31 = .ok (.iaload, 1) := by decide +kernel
theorem dX9_standing_32 : decode cX9_standing 32 = .ok (.invokestatic 104, 3) := by decide +kernel
theorem dX9_standing_35 : decode cX9_standing 35 = .ok (.ifCond .eq 28, 3) := by decide +kernel
theorem dX9_standing_38 : decode cX9_standing 38 = .ok (.aload_n 0, 1) := by decide +kernel
theorem dX9_standing_39 : decode cX9_standing 39 = .ok (.iload_n 3, 1) := by decide +kernel
theorem dX9_standing_40 : decode cX9_standing 40 = .ok (.invokevirtual 166, 3) := by decide +kernel
theorem dX9_standing_43 : decode cX9_standing 43 = .ok (.ifCond .eq 16, 3) := by decide +kernel
theorem dX9_standing_46 : decode cX9_standing 46 = .ok (.iload_n 1, 1) := by decide +kernel
theorem dX9_standing_47 : decode cX9_standing 47 = .ok (.aload_n 0, 1) := by decide +kernel
theorem dX9_standing_48 : decode cX9_standing 48 = .ok (.getfield 19, 3) := by decide +kernel
theorem dX9_standing_51 : decode cX9_standing 51 = .ok (.iload_n 3, 1) := by decide +kernel
theorem dX9_standing_52 : decode cX9_standing 52 = .ok (.iaload, 1) := by decide +kernel
theorem dX9_standing_53 : decode cX9_standing 53 = .ok (.invokestatic 104, 3) := by decide +kernel
theorem dX9_standing_56 : decode cX9_standing 56 = .ok (.ifCond .eq 7, 3) := by decide +kernel
theorem dX9_standing_59 : decode cX9_standing 59 = .ok (.iconst 1, 1) := by decide +kernel
theorem dX9_standing_60 : decode cX9_standing 60 = .ok (.goto 4, 3) := by decide +kernel
theorem dX9_standing_63 : decode cX9_standing 63 = .ok (.iconst 0, 1) := by decide +kernel
theorem dX9_standing_64 : decode cX9_standing 64 = .ok (.istore 4, 2) := by decide +kernel
theorem dX9_standing_66 : decode cX9_standing 66 = .ok (.iload_n 2, 1) := by decide +kernel
theorem dX9_standing_67 : decode cX9_standing 67 = .ok (.iload 4, 2) := by decide +kernel
theorem dX9_standing_69 : decode cX9_standing 69 = .ok (.ifCond .eq 9, 3) := by decide +kernel
theorem dX9_standing_72 : decode cX9_standing 72 = .ok (.iconst 1, 1) := by decide +kernel
theorem dX9_standing_73 : decode cX9_standing 73 = .ok (.iload_n 3, 1) := by decide +kernel
theorem dX9_standing_74 : decode cX9_standing 74 = .ok (.ishl, 1) := by decide +kernel
theorem dX9_standing_75 : decode cX9_standing 75 = .ok (.goto 4, 3) := by decide +kernel
theorem dX9_standing_78 : decode cX9_standing 78 = .ok (.iconst 0, 1) := by decide +kernel
theorem dX9_standing_79 : decode cX9_standing 79 = .ok (.ior, 1) := by decide +kernel
theorem dX9_standing_80 : decode cX9_standing 80 = .ok (.istore_n 2, 1) := by decide +kernel
theorem dX9_standing_81 : decode cX9_standing 81 = .ok (.iinc 3 1, 3) := by decide +kernel
theorem dX9_standing_84 : decode cX9_standing 84 = .ok (.goto (-80), 3) := by decide +kernel
theorem dX9_standing_87 : decode cX9_standing 87 = .ok (.iload_n 2, 1) := by decide +kernel
theorem dX9_standing_88 : decode cX9_standing 88 = .ok (.ireturn, 1) := by decide +kernel
set_option maxRecDepth 20000 in
theorem ggX9_wish_X9_in : GoodIn wsX9_wish wsX9_in := goodIn_r _ [9] (by decide +kernel) (by decide +kernel)
set_option maxRecDepth 20000 in
theorem gX9_wish_X9_in : GoodIn wsX9_wish (va_wsS RX9 100 yX9_in wsX9_in) := goodIn_app (goodIn_of _ (by decide +kernel)) ggX9_wish_X9_in
set_option maxRecDepth 20000 in
theorem ggX9_wish_X9_standing : GoodIn wsX9_wish wsX9_standing := goodIn_r _ [13, 1, 5, 3, 4, 14, 15, 8, 16, 17, 18, 19, 20, 2, 21, 22, 23, 24, 25, 26, 27, 28, 29, 30, 31, 32, 33, 34, 35, 36, 37, 38, 39, 40, 41, 42, 43, 44, 45, 46, 47, 48, 49, 50, 51, 52, 53, 54, 55, 56] (by decide +kernel) (by decide +kernel)
set_option maxRecDepth 20000 in
theorem gX9_wish_X9_standing : GoodIn wsX9_wish (wsV RX9 169 RX9 yX9_standing wsX9_standing) := goodIn_app (goodIn_of _ (by decide +kernel)) ggX9_wish_X9_standing
theorem dX9_wish_0 : decode cX9_wish 0 = .ok (.iload_n 1, 1) := by decide +kernel
theorem dX9_wish_1 : decode cX9_wish 1 = .ok (.iconst 0, 1) := by decide +kernel
theorem dX9_wish_2 : decode cX9_wish 2 = .ok (.aload_n 0, 1) := by decide +kernel
theorem dX9_wish_3 : decode cX9_wish 3 = .ok (.getfield 145, 3) := by decide +kernel
theorem dX9_wish_6 : decode cX9_wish 6 = .ok (.iconst 1, 1) := by decide +kernel
theorem dX9_wish_7 : decode cX9_wish 7 = .ok (.isub, 1) := by decide +kernel
theorem dX9_wish_8 : decode cX9_wish 8 = .ok (.invokestatic 100, 3) := by decide +kernel
theorem dX9_wish_11 : decode cX9_wish 11 = .ok (.ifCond .ne 5, 3) := by decide +kernel
theorem dX9_wish_14 : decode cX9_wish 14 = .ok (.iconst (-1), 1) := by decide +kernel
theorem dX9_wish_15 : decode cX9_wish 15 = .ok (.ireturn, 1) := by decide +kernel
theorem dX9_wish_16 : decode cX9_wish 16 = .ok (.iload_n 2, 1) := by decide +kernel
theorem dX9_wish_17 : decode cX9_wish 17 = .ok (.tableswitch 67 0 3 #[31, 38, 45, 52], 31) := by decide +kernel
theorem dX9_wish_48 : decode cX9_wish 48 = .ok (.aload_n 0, 1) := by decide +kernel
theorem dX9_wish_49 : decode cX9_wish 49 = .ok (.getfield 13, 3) := by decide +kernel
theorem dX9_wish_52 : decode cX9_wish 52 = .ok (.iload_n 1, 1) := by decide +kernel
theorem dX9_wish_53 : decode cX9_wish 53 = .ok (.iaload, 1) := by decide +kernel
theorem dX9_wish_54 : decode cX9_wish 54 = .ok (.ireturn, 1) := by decide +kernel
theorem dX9_wish_55 : decode cX9_wish 55 = .ok (.aload_n 0, 1) := by decide +kernel
theorem dX9_wish_56 : decode cX9_wish 56 = .ok (.getfield 16, 3) := by decide +kernel
theorem dX9_wish_59 : decode cX9_wish 59 = .ok (.iload_n 1, 1) := by decide +kernel
theorem dX9_wish_60 : decode cX9_wish 60 = .ok (.iaload, 1) := by decide +kernel
theorem dX9_wish_61 : decode cX9_wish 61 = .ok (.ireturn, 1) := by decide +kernel
theorem dX9_wish_62 : decode cX9_wish 62 = .ok (.aload_n 0, 1) := by decide +kernel
theorem dX9_wish_63 : decode cX9_wish 63 = .ok (.getfield 19, 3) := by decide +kernel
theorem dX9_wish_66 : decode cX9_wish 66 = .ok (.iload_n 1, 1) := by decide +kernel
theorem dX9_wish_67 : decode cX9_wish 67 = .ok (.iaload, 1) := by decide +kernel
theorem dX9_wish_68 : decode cX9_wish 68 = .ok (.ireturn, 1) := by decide +kernel
theorem dX9_wish_69 : decode cX9_wish 69 = .ok (.aload_n 0, 1) := by decide +kernel
theorem dX9_wish_70 : decode cX9_wish 70 = .ok (.aload_n 0, 1) := by decide +kernel
theorem dX9_wish_71 : decode cX9_wish 71 = .ok (.getfield 22, 3) := by decide +kernel
theorem dX9_wish_74 : decode cX9_wish 74 = .ok (.iconst 0, 1) := by decide +kernel
theorem dX9_wish_75 : decode cX9_wish 75 = .ok (.iaload, 1) := by decide +kernel
theorem dX9_wish_76 : decode cX9_wish 76 = .ok (.invokevirtual 169, 3) := by decide +kernel
theorem dX9_wish_79 : decode cX9_wish 79 = .ok (.iload_n 1, 1) := by decide +kernel
theorem dX9_wish_80 : decode cX9_wish 80 = .ok (.ishr, 1) := by decide +kernel
theorem dX9_wish_81 : decode cX9_wish 81 = .ok (.iconst 1, 1) := by decide +kernel
theorem dX9_wish_82 : decode cX9_wish 82 = .ok (.iand, 1) := by decide +kernel
theorem dX9_wish_83 : decode cX9_wish 83 = .ok (.ireturn, 1) := by decide +kernel
theorem dX9_wish_84 : decode cX9_wish 84 = .ok (.iconst (-1), 1) := by decide +kernel
theorem dX9_wish_85 : decode cX9_wish 85 = .ok (.ireturn, 1) := by decide +kernel
theorem dX9_copy_0 : decode cX9_copy 0 = .ok (.iconst 0, 1) := by decide +kernel
theorem dX9_copy_1 : decode cX9_copy 1 = .ok (.istore 4, 2) := by decide +kernel
theorem dX9_copy_3 : decode cX9_copy 3 = .ok (.iload 4, 2) := by decide +kernel
theorem dX9_copy_5 : decode cX9_copy 5 = .ok (.bipush 8, 2) := by decide +kernel
theorem dX9_copy_7 : decode cX9_copy 7 = .ok (.if_icmp .ge 21, 3) := by decide +kernel
theorem dX9_copy_10 : decode cX9_copy 10 = .ok (.aload_n 0, 1) := by decide +kernel
theorem dX9_copy_11 : decode cX9_copy 11 = .ok (.iload_n 1, 1) := by decide +kernel
theorem dX9_copy_12 : decode cX9_copy 12 = .ok (.iload 4, 2) := by decide +kernel
theorem dX9_copy_14 : decode cX9_copy 14 = .ok (.iadd, 1) := by decide +kernel
theorem dX9_copy_15 : decode cX9_copy 15 = .ok (.aload_n 2, 1) := by decide +kernel
theorem dX9_copy_16 : decode cX9_copy 16 = .ok (.iload_n 3, 1) := by decide +kernel
theorem dX9_copy_17 : decode cX9_copy 17 = .ok (.iload 4, 2) := by decide +kernel
theorem dX9_copy_19 : decode cX9_copy 19 = .ok (.iadd, 1) := by decide +kernel
theorem dX9_copy_20 : decode cX9_copy 20 = .ok (.iaload, 1) := by decide +kernel
theorem dX9_copy_21 : decode cX9_copy 21 = .ok (.iastore, 1) := by decide +kernel
theorem dX9_copy_22 : decode cX9_copy 22 = .ok (.iinc 4 1, 3) := by decide +kernel
theorem dX9_copy_25 : decode cX9_copy 25 = .ok (.goto (-22), 3) := by decide +kernel
theorem dX9_copy_28 : decode cX9_copy 28 = .ok (.return_, 1) := by decide +kernel
set_option maxRecDepth 20000 in
theorem ggX9_remembers_X9_copy : GoodIn wsX9_remembers wsX9_copy := goodIn_r _ [7] (by decide +kernel) (by decide +kernel)
set_option maxRecDepth 20000 in
theorem gX9_remembers_X9_copy : GoodIn wsX9_remembers (va_wsS RX9 172 yX9_copy wsX9_copy) := goodIn_app (goodIn_of _ (by decide +kernel)) ggX9_remembers_X9_copy
theorem dX9_remembers_0 : decode cX9_remembers 0 = .ok (.aload_n 0, 1) := by decide +kernel
theorem dX9_remembers_1 : decode cX9_remembers 1 = .ok (.getfield 151, 3) := by decide +kernel
theorem dX9_remembers_4 : decode cX9_remembers 4 = .ok (.bipush 8, 2) := by decide +kernel
theorem dX9_remembers_6 : decode cX9_remembers 6 = .ok (.if_icmp .ne 42, 3) := by decide +kernel
theorem dX9_remembers_9 : decode cX9_remembers 9 = .ok (.iconst 0, 1) := by decide +kernel
theorem dX9_remembers_10 : decode cX9_remembers 10 = .ok (.istore_n 1, 1) := by decide +kernel
theorem dX9_remembers_11 : decode cX9_remembers 11 = .ok (.iload_n 1, 1) := by decide +kernel
theorem dX9_remembers_12 : decode cX9_remembers 12 = .ok (.bipush 56, 2) := by decide +kernel
theorem dX9_remembers_14 : decode cX9_remembers 14 = .ok (.if_icmp .ge 24, 3) := by decide +kernel
theorem dX9_remembers_17 : decode cX9_remembers 17 = .ok (.aload_n 0, 1) := by decide +kernel
theorem dX9_remembers_18 : decode cX9_remembers 18 = .ok (.getfield 25, 3) := by decide +kernel
theorem dX9_remembers_21 : decode cX9_remembers 21 = .ok (.iload_n 1, 1) := by decide +kernel
theorem dX9_remembers_22 : decode cX9_remembers 22 = .ok (.aload_n 0, 1) := by decide +kernel
theorem dX9_remembers_23 : decode cX9_remembers 23 = .ok (.getfield 25, 3) := by decide +kernel
theorem dX9_remembers_26 : decode cX9_remembers 26 = .ok (.iload_n 1, 1) := by decide +kernel
theorem dX9_remembers_27 : decode cX9_remembers 27 = .ok (.bipush 8, 2) := by decide +kernel
theorem dX9_remembers_29 : decode cX9_remembers 29 = .ok (.iadd, 1) := by decide +kernel
theorem dX9_remembers_30 : decode cX9_remembers 30 = .ok (.iaload, 1) := by decide +kernel
theorem dX9_remembers_31 : decode cX9_remembers 31 = .ok (.iastore, 1) := by decide +kernel
theorem dX9_remembers_32 : decode cX9_remembers 32 = .ok (.iinc 1 1, 3) := by decide +kernel
theorem dX9_remembers_35 : decode cX9_remembers 35 = .ok (.goto (-24), 3) := by decide +kernel
theorem dX9_remembers_38 : decode cX9_remembers 38 = .ok (.aload_n 0, 1) := by decide +kernel
theorem dX9_remembers_39 : decode cX9_remembers 39 = .ok (.dup, 1) := by decide +kernel
theorem dX9_remembers_40 : decode cX9_remembers 40 = .ok (.getfield 151, 3) := by decide +kernel
theorem dX9_remembers_43 : decode cX9_remembers 43 = .ok (.iconst 1, 1) := by decide +kernel
theorem dX9_remembers_44 : decode cX9_remembers 44 = .ok (.isub, 1) := by decide +kernel
theorem dX9_remembers_45 : decode cX9_remembers 45 = .ok (.putfield 151, 3) := by decide +kernel
theorem dX9_remembers_48 : decode cX9_remembers 48 = .ok (.aload_n 0, 1) := by decide +kernel
theorem dX9_remembers_49 : decode cX9_remembers 49 = .ok (.getfield 25, 3) := by decide +kernel
theorem dX9_remembers_52 : decode cX9_remembers 52 = .ok (.bipush 8, 2) := by decide +kernel
theorem dX9_remembers_54 : decode cX9_remembers 54 = .ok (.aload_n 0, 1) := by decide +kernel
theorem dX9_remembers_55 : decode cX9_remembers 55 = .ok (.getfield 151, 3) := by decide +kernel
theorem dX9_remembers_58 : decode cX9_remembers 58 = .ok (.imul, 1) := by decide +kernel
theorem dX9_remembers_59 : decode cX9_remembers 59 = .ok (.aload_n 0, 1) := by decide +kernel
theorem dX9_remembers_60 : decode cX9_remembers 60 = .ok (.getfield 22, 3) := by decide +kernel
theorem dX9_remembers_63 : decode cX9_remembers 63 = .ok (.iconst 0, 1) := by decide +kernel
theorem dX9_remembers_64 : decode cX9_remembers 64 = .ok (.invokestatic 172, 3) := by decide +kernel
theorem dX9_remembers_67 : decode cX9_remembers 67 = .ok (.aload_n 0, 1) := by decide +kernel
theorem dX9_remembers_68 : decode cX9_remembers 68 = .ok (.dup, 1) := by decide +kernel
theorem dX9_remembers_69 : decode cX9_remembers 69 = .ok (.getfield 151, 3) := by decide +kernel
theorem dX9_remembers_72 : decode cX9_remembers 72 = .ok (.iconst 1, 1) := by decide +kernel
theorem dX9_remembers_73 : decode cX9_remembers 73 = .ok (.iadd, 1) := by decide +kernel
theorem dX9_remembers_74 : decode cX9_remembers 74 = .ok (.putfield 151, 3) := by decide +kernel
theorem dX9_remembers_77 : decode cX9_remembers 77 = .ok (.return_, 1) := by decide +kernel
set_option maxRecDepth 20000 in
theorem ggX9_leave_X9_isGuest : GoodIn wsX9_leave wsX9_isGuest := goodIn_r _ [6, 7, 8, 9, 5, 10, 20, 21, 22, 23, 24, 25, 26, 27, 28, 29, 30, 31, 32, 33, 34, 35, 36, 37, 38, 39, 40, 41, 42, 43, 44, 45, 46, 47, 48, 49, 50, 51, 52, 53, 54, 55] (by decide +kernel) (by decide +kernel)
set_option maxRecDepth 20000 in
theorem gX9_leave_X9_isGuest : GoodIn wsX9_leave (wsV RX9 160 RX9 yX9_isGuest wsX9_isGuest) := goodIn_app (goodIn_of _ (by decide +kernel)) ggX9_leave_X9_isGuest
set_option maxRecDepth 20000 in
theorem ggX9_leave_X9_remembers : GoodIn wsX9_leave wsX9_remembers := goodIn_r _ [14, 15, 16, 1, 17, 18, 5, 19, 20, 21, 22, 23, 24, 25, 26, 27, 28, 29, 30, 31, 32, 33, 34, 35, 36, 37, 38, 39, 40, 41, 42, 43, 44, 45, 46, 47, 48, 49, 50, 51, 52, 53, 54, 55] (by decide +kernel) (by decide +kernel)
set_option maxRecDepth 20000 in
theorem gX9_leave_X9_remembers : GoodIn wsX9_leave (wsV RX9 176 RX9 yX9_remembers wsX9_remembers) := goodIn_app (goodIn_of _ (by decide +kernel)) ggX9_leave_X9_remembers
theorem dX9_leave_0 : decode cX9_leave 0 = .ok (.aload_n 0, 1) := by decide +kernel
theorem dX9_leave_1 : decode cX9_leave 1 = .ok (.iload_n 1, 1) := by decide +kernel
theorem dX9_leave_2 : decode cX9_leave 2 = .ok (.invokevirtual 160, 3) := by decide +kernel
theorem dX9_leave_5 : decode cX9_leave 5 = .ok (.ifCond .ne 5, 3) := by decide +kernel
theorem dX9_leave_8 : decode cX9_leave 8 = .ok (.iconst (-1), 1) := by decide +kernel
theorem dX9_leave_9 : decode cX9_leave 9 = .ok (.ireturn, 1) := by decide +kernel
theorem dX9_leave_10 : decode cX9_leave 10 = .ok (.aload_n 0, 1) := by decide +kernel
theorem dX9_leave_11 : decode cX9_leave 11 = .ok (.invokevirtual 176, 3) := by decide +kernel
theorem dX9_leave_14 : decode cX9_leave 14 = .ok (.aload_n 0, 1) := by decide +kernel
theorem dX9_leave_15 : decode cX9_leave 15 = .ok (.getfield 22, 3) := by decide +kernel
theorem dX9_leave_18 : decode cX9_leave 18 = .ok (.iconst 0, 1) := by decide +kernel
theorem dX9_leave_19 : decode cX9_leave 19 = .ok (.dup2, 1) := by decide +kernel
theorem dX9_leave_20 : decode cX9_leave 20 = .ok (.iaload, 1) := by decide +kernel
theorem dX9_leave_21 : decode cX9_leave 21 = .ok (.iconst 1, 1) := by decide +kernel
theorem dX9_leave_22 : decode cX9_leave 22 = .ok (.iload_n 1, 1) := by decide +kernel
theorem dX9_leave_23 : decode cX9_leave 23 = .ok (.ishl, 1) := by decide +kernel
theorem dX9_leave_24 : decode cX9_leave 24 = .ok (.ixor, 1) := by decide +kernel
theorem dX9_leave_25 : decode cX9_leave 25 = .ok (.iastore, 1) := by decide +kernel
theorem dX9_leave_26 : decode cX9_leave 26 = .ok (.aload_n 0, 1) := by decide +kernel
theorem dX9_leave_27 : decode cX9_leave 27 = .ok (.getfield 22, 3) := by decide +kernel
theorem dX9_leave_30 : decode cX9_leave 30 = .ok (.iconst 0, 1) := by decide +kernel
theorem dX9_leave_31 : decode cX9_leave 31 = .ok (.iaload, 1) := by decide +kernel
theorem dX9_leave_32 : decode cX9_leave 32 = .ok (.iload_n 1, 1) := by decide +kernel
theorem dX9_leave_33 : decode cX9_leave 33 = .ok (.ishr, 1) := by decide +kernel
theorem dX9_leave_34 : decode cX9_leave 34 = .ok (.iconst 1, 1) := by decide +kernel
theorem dX9_leave_35 : decode cX9_leave 35 = .ok (.iand, 1) := by decide +kernel
theorem dX9_leave_36 : decode cX9_leave 36 = .ok (.ireturn, 1) := by decide +kernel
set_option maxRecDepth 20000 in
theorem ggX9_move_X9_isGuest : GoodIn wsX9_move wsX9_isGuest := goodIn_r _ [6, 7, 8, 9, 5, 10, 20, 21, 22, 23, 24, 25, 26, 27, 28, 29, 30, 31, 32, 33, 34, 35, 36, 37, 38, 39, 40, 41, 42, 43, 44, 45, 46, 47, 48, 49, 50, 51, 52, 53, 54, 55] (by decide +kernel) (by decide +kernel)
set_option maxRecDepth 20000 in
theorem gX9_move_X9_isGuest : GoodIn wsX9_move (wsV RX9 160 RX9 yX9_isGuest wsX9_isGuest) := goodIn_app (goodIn_of _ (by decide +kernel)) ggX9_move_X9_isGuest
set_option maxRecDepth 20000 in
theorem ggX9_move_X9_in : GoodIn wsX9_move wsX9_in := goodIn_r _ [10] (by decide +kernel) (by decide +kernel)
set_option maxRecDepth 20000 in
theorem gX9_move_X9_in : GoodIn wsX9_move (va_wsS RX9 100 yX9_in wsX9_in) := goodIn_app (goodIn_of _ (by decide +kernel)) ggX9_move_X9_in
set_option maxRecDepth 20000 in
theorem ggX9_move_X9_remembers : GoodIn wsX9_move wsX9_remembers := goodIn_r _ [14, 15, 16, 1, 17, 18, 5, 19, 20, 21, 22, 23, 24, 25, 26, 27, 28, 29, 30, 31, 32, 33, 34, 35, 36, 37, 38, 39, 40, 41, 42, 43, 44, 45, 46, 47, 48, 49, 50, 51, 52, 53, 54, 55] (by decide +kernel) (by decide +kernel)
set_option maxRecDepth 20000 in
theorem gX9_move_X9_remembers : GoodIn wsX9_move (wsV RX9 176 RX9 yX9_remembers wsX9_remembers) := goodIn_app (goodIn_of _ (by decide +kernel)) ggX9_move_X9_remembers
theorem dX9_move_0 : decode cX9_move 0 = .ok (.aload_n 0, 1) := by decide +kernel
theorem dX9_move_1 : decode cX9_move 1 = .ok (.iload_n 1, 1) := by decide +kernel
theorem dX9_move_2 : decode cX9_move 2 = .ok (.invokevirtual 160, 3) := by decide +kernel
theorem dX9_move_5 : decode cX9_move 5 = .ok (.ifCond .eq 13, 3) := by decide +kernel
theorem dX9_move_8 : decode cX9_move 8 = .ok (.iload_n 2, 1) := by decide +kernel
theorem dX9_move_9 : decode cX9_move 9 = .ok (.iconst 0, 1) := by decide +kernel
theorem dX9_move_10 : decode cX9_move 10 = .ok (.bipush 9, 2) := by decide +kernel
theorem dX9_move_12 : decode cX9_move 12 = .ok (.invokestatic 100, 3) := by decide +kernel
theorem dX9_move_15 : decode cX9_move 15 = .ok (.ifCond .ne 5, 3) := by decide +kernel
theorem dX9_move_18 : decode cX9_move 18 = .ok (.iconst (-1), 1) := by decide +kernel
theorem dX9_move_19 : decode cX9_move 19 = .ok (.ireturn, 1) := by decide +kernel
theorem dX9_move_20 : decode cX9_move 20 = .ok (.aload_n 0, 1) := by decide +kernel
theorem dX9_move_21 : decode cX9_move 21 = .ok (.getfield 22, 3) := by decide +kernel
theorem dX9_move_24 : decode cX9_move 24 = .ok (.iconst 2, 1) := by decide +kernel
theorem dX9_move_25 : decode cX9_move 25 = .ok (.iload_n 1, 1) := by decide +kernel
theorem dX9_move_26 : decode cX9_move 26 = .ok (.iadd, 1) := by decide +kernel
theorem dX9_move_27 : decode cX9_move 27 = .ok (.iaload, 1) := by decide +kernel
theorem dX9_move_28 : decode cX9_move 28 = .ok (.istore_n 3, 1) := by decide +kernel
theorem dX9_move_29 : decode cX9_move 29 = .ok (.iload_n 3, 1) := by decide +kernel
theorem dX9_move_30 : decode cX9_move 30 = .ok (.iload_n 2, 1) := by decide +kernel
theorem dX9_move_31 : decode cX9_move 31 = .ok (.if_icmp .ne 6, 3) := by decide +kernel
theorem dX9_move_34 : decode cX9_move 34 = .ok (.bipush (-2), 2) := by decide +kernel
theorem dX9_move_36 : decode cX9_move 36 = .ok (.ireturn, 1) := by decide +kernel
theorem dX9_move_37 : decode cX9_move 37 = .ok (.aload_n 0, 1) := by decide +kernel
theorem dX9_move_38 : decode cX9_move 38 = .ok (.invokevirtual 176, 3) := by decide +kernel
theorem dX9_move_41 : decode cX9_move 41 = .ok (.aload_n 0, 1) := by decide +kernel
theorem dX9_move_42 : decode cX9_move 42 = .ok (.getfield 22, 3) := by decide +kernel
theorem dX9_move_45 : decode cX9_move 45 = .ok (.iconst 2, 1) := by decide +kernel
theorem dX9_move_46 : decode cX9_move 46 = .ok (.iload_n 1, 1) := by decide +kernel
theorem dX9_move_47 : decode cX9_move 47 = .ok (.iadd, 1) := by decide +kernel
theorem dX9_move_48 : decode cX9_move 48 = .ok (.iload_n 2, 1) := by decide +kernel
theorem dX9_move_49 : decode cX9_move 49 = .ok (.iastore, 1) := by decide +kernel
theorem dX9_move_50 : decode cX9_move 50 = .ok (.iload_n 3, 1) := by decide +kernel
theorem dX9_move_51 : decode cX9_move 51 = .ok (.ireturn, 1) := by decide +kernel
set_option maxRecDepth 20000 in
theorem ggX9_strike_X9_in : GoodIn wsX9_strike wsX9_in := goodIn_r _ [6] (by decide +kernel) (by decide +kernel)
set_option maxRecDepth 20000 in
theorem gX9_strike_X9_in : GoodIn wsX9_strike (va_wsS RX9 100 yX9_in wsX9_in) := goodIn_app (goodIn_of _ (by decide +kernel)) ggX9_strike_X9_in
set_option maxRecDepth 20000 in
theorem ggX9_strike_X9_has : GoodIn wsX9_strike wsX9_has := goodIn_r _ [9] (by decide +kernel) (by decide +kernel)
set_option maxRecDepth 20000 in
theorem gX9_strike_X9_has : GoodIn wsX9_strike (va_wsS RX9 104 yX9_has wsX9_has) := goodIn_app (goodIn_of _ (by decide +kernel)) ggX9_strike_X9_has
set_option maxRecDepth 20000 in
theorem ggX9_strike_X9_remembers : GoodIn wsX9_strike wsX9_remembers := goodIn_r _ [13, 14, 15, 2, 16, 17, 5, 18, 22, 23, 24, 25, 26, 27, 28, 29, 30, 31, 32, 33, 34, 35, 36, 37, 38, 39, 40, 41, 42, 43, 44, 45, 46, 47, 48, 49, 50, 51, 52, 53, 54, 55, 56, 57] (by decide +kernel) (by decide +kernel)
set_option maxRecDepth 20000 in
theorem gX9_strike_X9_remembers : GoodIn wsX9_strike (wsV RX9 176 RX9 yX9_remembers wsX9_remembers) := goodIn_app (goodIn_of _ (by decide +kernel)) ggX9_strike_X9_remembers
set_option maxRecDepth 20000 in
theorem ggX9_strike_X9_bits : GoodIn wsX9_strike wsX9_bits := goodIn_r _ [21] (by decide +kernel) (by decide +kernel)
set_option maxRecDepth 20000 in
theorem gX9_strike_X9_bits : GoodIn wsX9_strike (va_wsS RX9 179 yX9_bits wsX9_bits) := goodIn_app (goodIn_of _ (by decide +kernel)) ggX9_strike_X9_bits
theorem dX9_strike_0 : decode cX9_strike 0 = .ok (.iload_n 1, 1) := by decide +kernel
theorem dX9_strike_1 : decode cX9_strike 1 = .ok (.iconst 0, 1) := by decide +kernel
theorem dX9_strike_2 : decode cX9_strike 2 = .ok (.aload_n 0, 1) := by decide +kernel
theorem dX9_strike_3 : decode cX9_strike 3 = .ok (.getfield 145, 3) := by decide +kernel
theorem dX9_strike_6 : decode cX9_strike 6 = .ok (.iconst 1, 1) := by decide +kernel
theorem dX9_strike_7 : decode cX9_strike 7 = .ok (.isub, 1) := by decide +kernel
theorem dX9_strike_8 : decode cX9_strike 8 = .ok (.invokestatic 100, 3) := by decide +kernel
theorem dX9_strike_11 : decode cX9_strike 11 = .ok (.ifCond .ne 5, 3) := by decide +kernel
theorem dX9_strike_14 : decode cX9_strike 14 = .ok (.iconst (-1), 1) := by decide +kernel
theorem dX9_strike_15 : decode cX9_strike 15 = .ok (.ireturn, 1) := by decide +kernel
theorem dX9_strike_16 : decode cX9_strike 16 = .ok (.aload_n 0, 1) := by decide +kernel
theorem dX9_strike_17 : decode cX9_strike 17 = .ok (.getfield 22, 3) := by decide +kernel
theorem dX9_strike_20 : decode cX9_strike 20 = .ok (.iconst 1, 1) := by decide +kernel
theorem dX9_strike_21 : decode cX9_strike 21 = .ok (.iaload, 1) := by decide +kernel
theorem dX9_strike_22 : decode cX9_strike 22 = .ok (.iload_n 1, 1) := by decide +kernel
theorem dX9_strike_23 : decode cX9_strike 23 = .ok (.invokestatic 104, 3) := by decide +kernel
theorem dX9_strike_26 : decode cX9_strike 26 = .ok (.iload_n 2, 1) := by decide +kernel
theorem dX9_strike_27 : decode cX9_strike 27 = .ok (.if_icmp .ne 6, 3) := by decide +kernel
theorem dX9_strike_30 : decode cX9_strike 30 = .ok (.bipush (-2), 2) := by decide +kernel
theorem dX9_strike_32 : decode cX9_strike 32 = .ok (.ireturn, 1) := by decide +kernel
theorem dX9_strike_33 : decode cX9_strike 33 = .ok (.aload_n 0, 1) := by decide +kernel
theorem dX9_strike_34 : decode cX9_strike 34 = .ok (.invokevirtual 176, 3) := by decide +kernel
theorem dX9_strike_37 : decode cX9_strike 37 = .ok (.aload_n 0, 1) := by decide +kernel
theorem dX9_strike_38 : decode cX9_strike 38 = .ok (.getfield 22, 3) := by decide +kernel
theorem dX9_strike_41 : decode cX9_strike 41 = .ok (.iconst 1, 1) := by decide +kernel
theorem dX9_strike_42 : decode cX9_strike 42 = .ok (.dup2, 1) := by decide +kernel
theorem dX9_strike_43 : decode cX9_strike 43 = .ok (.iaload, 1) := by decide +kernel
theorem dX9_strike_44 : decode cX9_strike 44 = .ok (.iconst 1, 1) := by decide +kernel
theorem dX9_strike_45 : decode cX9_strike 45 = .ok (.iload_n 1, 1) := by decide +kernel
theorem dX9_strike_46 : decode cX9_strike 46 = .ok (.ishl, 1) := by decide +kernel
theorem dX9_strike_47 : decode cX9_strike 47 = .ok (.ixor, 1) := by decide +kernel
theorem dX9_strike_48 : decode cX9_strike 48 = .ok (.iastore, 1) := by decide +kernel
theorem dX9_strike_49 : decode cX9_strike 49 = .ok (.aload_n 0, 1) := by decide +kernel
theorem dX9_strike_50 : decode cX9_strike 50 = .ok (.getfield 22, 3) := by decide +kernel
theorem dX9_strike_53 : decode cX9_strike 53 = .ok (.iconst 1, 1) := by decide +kernel
theorem dX9_strike_54 : decode cX9_strike 54 = .ok (.iaload, 1) := by decide +kernel
theorem dX9_strike_55 : decode cX9_strike 55 = .ok (.invokestatic 179, 3) := by decide +kernel
theorem dX9_strike_58 : decode cX9_strike 58 = .ok (.ireturn, 1) := by decide +kernel
set_option maxRecDepth 20000 in
theorem ggX9_undo_X9_copy : GoodIn wsX9_undo wsX9_copy := goodIn_r _ [7] (by decide +kernel) (by decide +kernel)
set_option maxRecDepth 20000 in
theorem gX9_undo_X9_copy : GoodIn wsX9_undo (va_wsS RX9 172 yX9_copy wsX9_copy) := goodIn_app (goodIn_of _ (by decide +kernel)) ggX9_undo_X9_copy
theorem dX9_undo_0 : decode cX9_undo 0 = .ok (.aload_n 0, 1) := by decide +kernel
theorem dX9_undo_1 : decode cX9_undo 1 = .ok (.getfield 151, 3) := by decide +kernel
theorem dX9_undo_4 : decode cX9_undo 4 = .ok (.ifCond .ne 6, 3) := by decide +kernel
theorem dX9_undo_7 : decode cX9_undo 7 = .ok (.bipush (-2), 2) := by decide +kernel
theorem dX9_undo_9 : decode cX9_undo 9 = .ok (.ireturn, 1) := by decide +kernel
theorem dX9_undo_10 : decode cX9_undo 10 = .ok (.aload_n 0, 1) := by decide +kernel
theorem dX9_undo_11 : decode cX9_undo 11 = .ok (.dup, 1) := by decide +kernel
theorem dX9_undo_12 : decode cX9_undo 12 = .ok (.getfield 151, 3) := by decide +kernel
theorem dX9_undo_15 : decode cX9_undo 15 = .ok (.iconst 1, 1) := by decide +kernel
theorem dX9_undo_16 : decode cX9_undo 16 = .ok (.isub, 1) := by decide +kernel
theorem dX9_undo_17 : decode cX9_undo 17 = .ok (.putfield 151, 3) := by decide +kernel
theorem dX9_undo_20 : decode cX9_undo 20 = .ok (.aload_n 0, 1) := by decide +kernel
theorem dX9_undo_21 : decode cX9_undo 21 = .ok (.getfield 22, 3) := by decide +kernel
theorem dX9_undo_24 : decode cX9_undo 24 = .ok (.iconst 0, 1) := by decide +kernel
theorem dX9_undo_25 : decode cX9_undo 25 = .ok (.aload_n 0, 1) := by decide +kernel
theorem dX9_undo_26 : decode cX9_undo 26 = .ok (.getfield 25, 3) := by decide +kernel
theorem dX9_undo_29 : decode cX9_undo 29 = .ok (.bipush 8, 2) := by decide +kernel
theorem dX9_undo_31 : decode cX9_undo 31 = .ok (.aload_n 0, 1) := by decide +kernel
theorem dX9_undo_32 : decode cX9_undo 32 = .ok (.getfield 151, 3) := by decide +kernel
theorem dX9_undo_35 : decode cX9_undo 35 = .ok (.imul, 1) := by decide +kernel
theorem dX9_undo_36 : decode cX9_undo 36 = .ok (.invokestatic 172, 3) := by decide +kernel
theorem dX9_undo_39 : decode cX9_undo 39 = .ok (.aload_n 0, 1) := by decide +kernel
theorem dX9_undo_40 : decode cX9_undo 40 = .ok (.getfield 151, 3) := by decide +kernel
theorem dX9_undo_43 : decode cX9_undo 43 = .ok (.ireturn, 1) := by decide +kernel
set_option maxRecDepth 20000 in
theorem ggX9_nextOrder_X9_trades : GoodIn wsX9_nextOrder wsX9_trades := goodIn_r _ [7, 2, 8, 9, 10, 11, 12, 13, 14, 15, 16, 17, 18, 19, 20, 21, 22, 23, 24, 25, 26, 27, 28, 29, 30, 31, 32, 33, 34, 35, 36, 37, 38, 39, 40, 41, 42, 43] (by decide +kernel) (by decide +kernel)
set_option maxRecDepth 20000 in
theorem gX9_nextOrder_X9_trades : GoodIn wsX9_nextOrder (wsV RX9 185 RX9 yX9_trades wsX9_trades) := goodIn_app (goodIn_of _ (by decide +kernel)) ggX9_nextOrder_X9_trades
theorem dX9_nextOrder_0 : decode cX9_nextOrder 0 = .ok (.aload_n 0, 1) := by decide +kernel
theorem dX9_nextOrder_1 : decode cX9_nextOrder 1 = .ok (.getfield 182, 3) := by decide +kernel
theorem dX9_nextOrder_4 : decode cX9_nextOrder 4 = .ok (.iconst 2, 1) := by decide +kernel
theorem dX9_nextOrder_5 : decode cX9_nextOrder 5 = .ok (.isub, 1) := by decide +kernel
theorem dX9_nextOrder_6 : decode cX9_nextOrder 6 = .ok (.istore_n 1, 1) := by decide +kernel
theorem dX9_nextOrder_7 : decode cX9_nextOrder 7 = .ok (.iload_n 1, 1) := by decide +kernel
theorem dX9_nextOrder_8 : decode cX9_nextOrder 8 = .ok (.ifCond .lt 26, 3) := by decide +kernel
theorem dX9_nextOrder_11 : decode cX9_nextOrder 11 = .ok (.aload_n 0, 1) := by decide +kernel
theorem dX9_nextOrder_12 : decode cX9_nextOrder 12 = .ok (.getfield 64, 3) := by decide +kernel
theorem dX9_nextOrder_15 : decode cX9_nextOrder 15 = .ok (.iload_n 1, 1) := by decide +kernel
theorem dX9_nextOrder_16 : decode cX9_nextOrder 16 = .ok (.iaload, 1) := by decide +kernel
theorem dX9_nextOrder_17 : decode cX9_nextOrder 17 = .ok (.aload_n 0, 1) := by decide +kernel
theorem dX9_nextOrder_18 : decode cX9_nextOrder 18 = .ok (.getfield 64, 3) := by decide +kernel
theorem dX9_nextOrder_21 : decode cX9_nextOrder 21 = .ok (.iload_n 1, 1) := by decide +kernel
theorem dX9_nextOrder_22 : decode cX9_nextOrder 22 = .ok (.iconst 1, 1) := by decide +kernel
theorem dX9_nextOrder_23 : decode cX9_nextOrder 23 = .ok (.iadd, 1) := by decide +kernel
theorem dX9_nextOrder_24 : decode cX9_nextOrder 24 = .ok (.iaload, 1) := by decide +kernel
theorem dX9_nextOrder_25 : decode cX9_nextOrder 25 = .ok (.if_icmp .le 9, 3) := by decide +kernel
theorem dX9_nextOrder_28 : decode cX9_nextOrder 28 = .ok (.iinc 1 (-1), 3) := by decide +kernel
theorem dX9_nextOrder_31 : decode cX9_nextOrder 31 = .ok (.goto (-24), 3) := by decide +kernel
theorem dX9_nextOrder_34 : decode cX9_nextOrder 34 = .ok (.iload_n 1, 1) := by decide +kernel
theorem dX9_nextOrder_35 : decode cX9_nextOrder 35 = .ok (.ifCond .ge 5, 3) := by decide +kernel
theorem dX9_nextOrder_38 : decode cX9_nextOrder 38 = .ok (.iconst 0, 1) := by decide +kernel
theorem dX9_nextOrder_39 : decode cX9_nextOrder 39 = .ok (.ireturn, 1) := by decide +kernel
theorem dX9_nextOrder_40 : decode cX9_nextOrder 40 = .ok (.aload_n 0, 1) := by decide +kernel
theorem dX9_nextOrder_41 : decode cX9_nextOrder 41 = .ok (.getfield 182, 3) := by decide +kernel
theorem dX9_nextOrder_44 : decode cX9_nextOrder 44 = .ok (.iconst 1, 1) := by decide +kernel
theorem dX9_nextOrder_45 : decode cX9_nextOrder 45 = .ok (.isub, 1) := by decide +kernel
theorem dX9_nextOrder_46 : decode cX9_nextOrder 46 = .ok (.istore_n 2, 1) := by decide +kernel
theorem dX9_nextOrder_47 : decode cX9_nextOrder 47 = .ok (.aload_n 0, 1) := by decide +kernel
theorem dX9_nextOrder_48 : decode cX9_nextOrder 48 = .ok (.getfield 64, 3) := by decide +kernel
theorem dX9_nextOrder_51 : decode cX9_nextOrder 51 = .ok (.iload_n 2, 1) := by decide +kernel
theorem dX9_nextOrder_52 : decode cX9_nextOrder 52 = .ok (.iaload, 1) := by decide +kernel
theorem dX9_nextOrder_53 : decode cX9_nextOrder 53 = .ok (.aload_n 0, 1) := by decide +kernel
theorem dX9_nextOrder_54 : decode cX9_nextOrder 54 = .ok (.getfield 64, 3) := by decide +kernel
theorem dX9_nextOrder_57 : decode cX9_nextOrder 57 = .ok (.iload_n 1, 1) := by decide +kernel
theorem dX9_nextOrder_58 : decode cX9_nextOrder 58 = .ok (.iaload, 1) := by decide +kernel
theorem dX9_nextOrder_59 : decode cX9_nextOrder 59 = .ok (.if_icmp .ge 9, 3) := by decide +kernel
theorem dX9_nextOrder_62 : decode cX9_nextOrder 62 = .ok (.iinc 2 (-1), 3) := by decide +kernel
theorem dX9_nextOrder_65 : decode cX9_nextOrder 65 = .ok (.goto (-18), 3) := by decide +kernel
theorem dX9_nextOrder_68 : decode cX9_nextOrder 68 = .ok (.aload_n 0, 1) := by decide +kernel
theorem dX9_nextOrder_69 : decode cX9_nextOrder 69 = .ok (.iload_n 1, 1) := by decide +kernel
theorem dX9_nextOrder_70 : decode cX9_nextOrder 70 = .ok (.iload_n 2, 1) := by decide +kernel
theorem dX9_nextOrder_71 : decode cX9_nextOrder 71 = .ok (.invokevirtual 185, 3) := by decide +kernel
theorem dX9_nextOrder_74 : decode cX9_nextOrder 74 = .ok (.iload_n 1, 1) := by decide +kernel
theorem dX9_nextOrder_75 : decode cX9_nextOrder 75 = .ok (.iconst 1, 1) := by decide +kernel
theorem dX9_nextOrder_76 : decode cX9_nextOrder 76 = .ok (.iadd, 1) := by decide +kernel
theorem dX9_nextOrder_77 : decode cX9_nextOrder 77 = .ok (.istore_n 3, 1) := by decide +kernel
theorem dX9_nextOrder_78 : decode cX9_nextOrder 78 = .ok (.aload_n 0, 1) := by decide +kernel
theorem dX9_nextOrder_79 : decode cX9_nextOrder 79 = .ok (.getfield 182, 3) := by decide +kernel
theorem dX9_nextOrder_82 : decode cX9_nextOrder 82 = .ok (.iconst 1, 1) := by decide +kernel
theorem dX9_nextOrder_83 : decode cX9_nextOrder 83 = .ok (.isub, 1) := by decide +kernel
theorem dX9_nextOrder_84 : decode cX9_nextOrder 84 = .ok (.istore 4, 2) := by decide +kernel
theorem dX9_nextOrder_86 : decode cX9_nextOrder 86 = .ok (.iload_n 3, 1) := by decide +kernel
theorem dX9_nextOrder_87 : decode cX9_nextOrder 87 = .ok (.iload 4, 2) := by decide +kernel
theorem dX9_nextOrder_89 : decode cX9_nextOrder 89 = .ok (.if_icmp .ge 19, 3) := by decide +kernel
theorem dX9_nextOrder_92 : decode cX9_nextOrder 92 = .ok (.aload_n 0, 1) := by decide +kernel
theorem dX9_nextOrder_93 : decode cX9_nextOrder 93 = .ok (.iload_n 3, 1) := by decide +kernel
theorem dX9_nextOrder_94 : decode cX9_nextOrder 94 = .ok (.iload 4, 2) := by decide +kernel
theorem dX9_nextOrder_96 : decode cX9_nextOrder 96 = .ok (.invokevirtual 185, 3) := by decide +kernel
theorem dX9_nextOrder_99 : decode cX9_nextOrder 99 = .ok (.iinc 3 1, 3) := by decide +kernel
theorem dX9_nextOrder_102 : decode cX9_nextOrder 102 = .ok (.iinc 4 (-1), 3) := by decide +kernel
theorem dX9_nextOrder_105 : decode cX9_nextOrder 105 = .ok (.goto (-19), 3) := by decide +kernel
theorem dX9_nextOrder_108 : decode cX9_nextOrder 108 = .ok (.iconst 1, 1) := by decide +kernel
theorem dX9_nextOrder_109 : decode cX9_nextOrder 109 = .ok (.ireturn, 1) := by decide +kernel
theorem dX9_trades_0 : decode cX9_trades 0 = .ok (.aload_n 0, 1) := by decide +kernel
theorem dX9_trades_1 : decode cX9_trades 1 = .ok (.getfield 64, 3) := by decide +kernel
theorem dX9_trades_4 : decode cX9_trades 4 = .ok (.iload_n 1, 1) := by decide +kernel
theorem dX9_trades_5 : decode cX9_trades 5 = .ok (.iaload, 1) := by decide +kernel
theorem dX9_trades_6 : decode cX9_trades 6 = .ok (.istore_n 3, 1) := by decide +kernel
theorem dX9_trades_7 : decode cX9_trades 7 = .ok (.aload_n 0, 1) := by decide +kernel
theorem dX9_trades_8 : decode cX9_trades 8 = .ok (.getfield 64, 3) := by decide +kernel
theorem dX9_trades_11 : decode cX9_trades 11 = .ok (.iload_n 1, 1) := by decide +kernel
theorem dX9_trades_12 : decode cX9_trades 12 = .ok (.aload_n 0, 1) := by decide +kernel
theorem dX9_trades_13 : decode cX9_trades 13 = .ok (.getfield 64, 3) := by decide +kernel
theorem dX9_trades_16 : decode cX9_trades 16 = .ok (.iload_n 2, 1) := by decide +kernel
theorem dX9_trades_17 : decode cX9_trades 17 = .ok (.iaload, 1) := by decide +kernel
theorem dX9_trades_18 : decode cX9_trades 18 = .ok (.iastore, 1) := by decide +kernel
theorem dX9_trades_19 : decode cX9_trades 19 = .ok (.aload_n 0, 1) := by decide +kernel
theorem dX9_trades_20 : decode cX9_trades 20 = .ok (.getfield 64, 3) := by decide +kernel
theorem dX9_trades_23 : decode cX9_trades 23 = .ok (.iload_n 2, 1) := by decide +kernel
theorem dX9_trades_24 : decode cX9_trades 24 = .ok (.iload_n 3, 1) := by decide +kernel
theorem dX9_trades_25 : decode cX9_trades 25 = .ok (.iastore, 1) := by decide +kernel
theorem dX9_trades_26 : decode cX9_trades 26 = .ok (.return_, 1) := by decide +kernel
set_option maxRecDepth 20000 in
theorem ggX9_notSooner_X9_has : GoodIn wsX9_notSooner wsX9_has := goodIn_r _ [9] (by decide +kernel) (by decide +kernel)
set_option maxRecDepth 20000 in
theorem gX9_notSooner_X9_has : GoodIn wsX9_notSooner (va_wsS RX9 104 yX9_has wsX9_has) := goodIn_app (goodIn_of _ (by decide +kernel)) ggX9_notSooner_X9_has
theorem dX9_notSooner_0 : decode cX9_notSooner 0 = .ok (.iconst 0, 1) := by decide +kernel
theorem dX9_notSooner_1 : decode cX9_notSooner 1 = .ok (.istore_n 2, 1) := by decide +kernel
theorem dX9_notSooner_2 : decode cX9_notSooner 2 = .ok (.iconst 0, 1) := by decide +kernel
theorem dX9_notSooner_3 : decode cX9_notSooner 3 = .ok (.istore_n 3, 1) := by decide +kernel
theorem dX9_notSooner_4 : decode cX9_notSooner 4 = .ok (.iload_n 3, 1) := by decide +kernel
theorem dX9_notSooner_5 : decode cX9_notSooner 5 = .ok (.aload_n 0, 1) := by decide +kernel
theorem dX9_notSooner_6 : decode cX9_notSooner 6 = .ok (.getfield 145, 3) := by decide +kernel
theorem dX9_notSooner_9 : decode cX9_notSooner 9 = .ok (.if_icmp .ge 73, 3) := by decide +kernel
theorem dX9_notSooner_12 : decode cX9_notSooner 12 = .ok (.aload_n 0, 1) := by decide +kernel
theorem dX9_notSooner_13 : decode cX9_notSooner 13 = .ok (.getfield 188, 3) := by decide +kernel
theorem dX9_notSooner_16 : decode cX9_notSooner 16 = .ok (.iload_n 3, 1) := by decide +kernel
theorem dX9_notSooner_17 : decode cX9_notSooner 17 = .ok (.invokestatic 104, 3) := by decide +kernel
theorem dX9_notSooner_20 : decode cX9_notSooner 20 = .ok (.ifCond .eq 37, 3) := by decide +kernel
theorem dX9_notSooner_23 : decode cX9_notSooner 23 = .ok (.aload_n 0, 1) := by decide +kernel
theorem dX9_notSooner_24 : decode cX9_notSooner 24 = .ok (.getfield 13, 3) := by decide +kernel
theorem dX9_notSooner_27 : decode cX9_notSooner 27 = .ok (.iload_n 3, 1) := by decide +kernel
theorem dX9_notSooner_28 : decode cX9_notSooner 28 = .ok (.iaload, 1) := by decide +kernel
theorem dX9_notSooner_29 : decode cX9_notSooner 29 = .ok (.iconst 3, 1) := by decide +kernel
theorem dX9_notSooner_30 : decode cX9_notSooner 30 = .ok (.if_icmp .ne 27, 3) := by decide +kernel
theorem dX9_notSooner_33 : decode cX9_notSooner 33 = .ok (.aload_n 0, 1) := by decide +kernel
theorem dX9_notSooner_34 : decode cX9_notSooner 34 = .ok (.getfield 16, 3) := by decide +kernel
theorem dX9_notSooner_37 : decode cX9_notSooner 37 = .ok (.iload_n 3, 1) := by decide +kernel
theorem dX9_notSooner_38 : decode cX9_notSooner 38 = .ok (.iaload, 1) := by decide +kernel
theorem dX9_notSooner_39 : decode cX9_notSooner 39 = .ok (.iload_n 1, 1) := by decide +kernel
theorem dX9_notSooner_40 : decode cX9_notSooner 40 = .ok (.if_icmp .ne 17, 3) := by decide +kernel
theorem dX9_notSooner_43 : decode cX9_notSooner 43 = .ok (.aload_n 0, 1) := by decide +kernel
theorem dX9_notSooner_44 : decode cX9_notSooner 44 = .ok (.getfield 19, 3) := by decide +kernel
theorem dX9_notSooner_47 : decode cX9_notSooner 47 = .ok (.iload_n 3, 1) := by decide +kernel
theorem dX9_notSooner_48 : decode cX9_notSooner 48 = .ok (.iaload, 1) := by decide +kernel
theorem dX9_notSooner_49 : decode cX9_notSooner 49 = .ok (.iload_n 2, 1) := by decide +kernel
theorem dX9_notSooner_50 : decode cX9_notSooner 50 = .ok (.if_icmp .le 7, 3) := by decide +kernel
theorem dX9_notSooner_53 : decode cX9_notSooner 53 = .ok (.iconst 1, 1) := by decide +kernel
theorem dX9_notSooner_54 : decode cX9_notSooner 54 = .ok (.goto 4, 3) := by decide +kernel
theorem dX9_notSooner_57 : decode cX9_notSooner 57 = .ok (.iconst 0, 1) := by decide +kernel
theorem dX9_notSooner_58 : decode cX9_notSooner 58 = .ok (.istore 4, 2) := by decide +kernel
theorem dX9_notSooner_60 : decode cX9_notSooner 60 = .ok (.iload 4, 2) := by decide +kernel
theorem dX9_notSooner_62 : decode cX9_notSooner 62 = .ok (.ifCond .eq 12, 3) := by decide +kernel
theorem dX9_notSooner_65 : decode cX9_notSooner 65 = .ok (.aload_n 0, 1) := by decide +kernel
theorem dX9_notSooner_66 : decode cX9_notSooner 66 = .ok (.getfield 19, 3) := by decide +kernel
theorem dX9_notSooner_69 : decode cX9_notSooner 69 = .ok (.iload_n 3, 1) := by decide +kernel
theorem dX9_notSooner_70 : decode cX9_notSooner 70 = .ok (.iaload, 1) := by decide +kernel
theorem dX9_notSooner_71 : decode cX9_notSooner 71 = .ok (.goto 4, 3) := by decide +kernel
theorem dX9_notSooner_74 : decode cX9_notSooner 74 = .ok (.iload_n 2, 1) := by decide +kernel
theorem dX9_notSooner_75 : decode cX9_notSooner 75 = .ok (.istore_n 2, 1) := by decide +kernel
theorem dX9_notSooner_76 : decode cX9_notSooner 76 = .ok (.iinc 3 1, 3) := by decide +kernel
theorem dX9_notSooner_79 : decode cX9_notSooner 79 = .ok (.goto (-75), 3) := by decide +kernel
theorem dX9_notSooner_82 : decode cX9_notSooner 82 = .ok (.iload_n 2, 1) := by decide +kernel
theorem dX9_notSooner_83 : decode cX9_notSooner 83 = .ok (.ireturn, 1) := by decide +kernel
set_option maxRecDepth 20000 in
theorem ggX9_goesRound_X9_notSooner : GoodIn wsX9_goesRound wsX9_notSooner := goodIn_r _ [11, 12, 13, 14, 15, 16, 17, 18, 10, 19, 25, 26, 27, 28, 29, 30, 31, 32, 33, 34, 35, 36, 37, 38, 39, 40, 41, 42, 43, 44, 45, 46, 47, 48, 49, 50, 51, 52, 53, 54, 55, 56, 57, 58, 59, 60] (by decide +kernel) (by decide +kernel)
set_option maxRecDepth 20000 in
theorem gX9_goesRound_X9_notSooner : GoodIn wsX9_goesRound (wsV RX9 191 RX9 yX9_notSooner wsX9_notSooner) := goodIn_app (goodIn_of _ (by decide +kernel)) ggX9_goesRound_X9_notSooner
set_option maxRecDepth 20000 in
theorem ggX9_goesRound_X9_wakes : GoodIn wsX9_goesRound wsX9_wakes := goodIn_r _ [23, 24, 4, 25, 26, 27, 28, 29, 30, 31, 32, 33, 34, 35, 36, 37, 38, 39, 40, 41, 42, 43, 44, 45, 46, 47, 48, 49, 50, 51, 52, 53, 54, 55, 56, 57, 58, 59, 60] (by decide +kernel) (by decide +kernel)
set_option maxRecDepth 20000 in
theorem gX9_goesRound_X9_wakes : GoodIn wsX9_goesRound (wsV RX9 163 RX9 yX9_wakes wsX9_wakes) := goodIn_app (goodIn_of _ (by decide +kernel)) ggX9_goesRound_X9_wakes
theorem dX9_goesRound_0 : decode cX9_goesRound 0 = .ok (.aload_n 0, 1) := by decide +kernel
theorem dX9_goesRound_1 : decode cX9_goesRound 1 = .ok (.getfield 148, 3) := by decide +kernel
theorem dX9_goesRound_4 : decode cX9_goesRound 4 = .ok (.istore_n 1, 1) := by decide +kernel
theorem dX9_goesRound_5 : decode cX9_goesRound 5 = .ok (.iconst 0, 1) := by decide +kernel
theorem dX9_goesRound_6 : decode cX9_goesRound 6 = .ok (.istore_n 2, 1) := by decide +kernel
theorem dX9_goesRound_7 : decode cX9_goesRound 7 = .ok (.iconst 0, 1) := by decide +kernel
theorem dX9_goesRound_8 : decode cX9_goesRound 8 = .ok (.istore_n 3, 1) := by decide +kernel
theorem dX9_goesRound_9 : decode cX9_goesRound 9 = .ok (.iload_n 3, 1) := by decide +kernel
theorem dX9_goesRound_10 : decode cX9_goesRound 10 = .ok (.aload_n 0, 1) := by decide +kernel
theorem dX9_goesRound_11 : decode cX9_goesRound 11 = .ok (.getfield 182, 3) := by decide +kernel
theorem dX9_goesRound_14 : decode cX9_goesRound 14 = .ok (.if_icmp .ge 102, 3) := by decide +kernel
theorem dX9_goesRound_17 : decode cX9_goesRound 17 = .ok (.aload_n 0, 1) := by decide +kernel
theorem dX9_goesRound_18 : decode cX9_goesRound 18 = .ok (.getfield 64, 3) := by decide +kernel
theorem dX9_goesRound_21 : decode cX9_goesRound 21 = .ok (.iload_n 3, 1) := by decide +kernel
theorem dX9_goesRound_22 : decode cX9_goesRound 22 = .ok (.iaload, 1) := by decide +kernel
theorem dX9_goesRound_23 : decode cX9_goesRound 23 = .ok (.istore 4, 2) := by decide +kernel
theorem dX9_goesRound_25 : decode cX9_goesRound 25 = .ok (.aload_n 0, 1) := by decide +kernel
theorem dX9_goesRound_26 : decode cX9_goesRound 26 = .ok (.getfield 22, 3) := by decide +kernel
theorem dX9_goesRound_29 : decode cX9_goesRound 29 = .ok (.iconst 2, 1) := by decide +kernel
theorem dX9_goesRound_30 : decode cX9_goesRound 30 = .ok (.iload 4, 2) := by decide +kernel
theorem dX9_goesRound_32 : decode cX9_goesRound 32 = .ok (.iadd, 1) := by decide +kernel
theorem dX9_goesRound_33 : decode cX9_goesRound 33 = .ok (.iaload, 1) := by decide +kernel
theorem dX9_goesRound_34 : decode cX9_goesRound 34 = .ok (.iload_n 2, 1) := by decide +kernel
theorem dX9_goesRound_35 : decode cX9_goesRound 35 = .ok (.isub, 1) := by decide +kernel
theorem dX9_goesRound_36 : decode cX9_goesRound 36 = .ok (.istore 5, 2) := by decide +kernel
theorem dX9_goesRound_38 : decode cX9_goesRound 38 = .ok (.iload_n 1, 1) := by decide +kernel
theorem dX9_goesRound_39 : decode cX9_goesRound 39 = .ok (.iload 5, 2) := by decide +kernel
theorem dX9_goesRound_41 : decode cX9_goesRound 41 = .ok (.ifCond .ge 9, 3) := by decide +kernel
theorem dX9_goesRound_44 : decode cX9_goesRound 44 = .ok (.iload 5, 2) := by decide +kernel
theorem dX9_goesRound_46 : decode cX9_goesRound 46 = .ok (.ineg, 1) := by decide +kernel
theorem dX9_goesRound_47 : decode cX9_goesRound 47 = .ok (.goto 5, 3) := by decide +kernel
theorem dX9_goesRound_50 : decode cX9_goesRound 50 = .ok (.iload 5, 2) := by decide +kernel
theorem dX9_goesRound_52 : decode cX9_goesRound 52 = .ok (.iadd, 1) := by decide +kernel
theorem dX9_goesRound_53 : decode cX9_goesRound 53 = .ok (.istore_n 1, 1) := by decide +kernel
theorem dX9_goesRound_54 : decode cX9_goesRound 54 = .ok (.aload_n 0, 1) := by decide +kernel
theorem dX9_goesRound_55 : decode cX9_goesRound 55 = .ok (.getfield 22, 3) := by decide +kernel
theorem dX9_goesRound_58 : decode cX9_goesRound 58 = .ok (.iconst 2, 1) := by decide +kernel
theorem dX9_goesRound_59 : decode cX9_goesRound 59 = .ok (.iload 4, 2) := by decide +kernel
theorem dX9_goesRound_61 : decode cX9_goesRound 61 = .ok (.iadd, 1) := by decide +kernel
theorem dX9_goesRound_62 : decode cX9_goesRound 62 = .ok (.iaload, 1) := by decide +kernel
theorem dX9_goesRound_63 : decode cX9_goesRound 63 = .ok (.istore_n 2, 1) := by decide +kernel
theorem dX9_goesRound_64 : decode cX9_goesRound 64 = .ok (.aload_n 0, 1) := by decide +kernel
theorem dX9_goesRound_65 : decode cX9_goesRound 65 = .ok (.iload 4, 2) := by decide +kernel
theorem dX9_goesRound_67 : decode cX9_goesRound 67 = .ok (.invokevirtual 191, 3) := by decide +kernel
theorem dX9_goesRound_70 : decode cX9_goesRound 70 = .ok (.istore 6, 2) := by decide +kernel
theorem dX9_goesRound_72 : decode cX9_goesRound 72 = .ok (.iload 6, 2) := by decide +kernel
theorem dX9_goesRound_74 : decode cX9_goesRound 74 = .ok (.iload_n 1, 1) := by decide +kernel
theorem dX9_goesRound_75 : decode cX9_goesRound 75 = .ok (.if_icmp .le 8, 3) := by decide +kernel
theorem dX9_goesRound_78 : decode cX9_goesRound 78 = .ok (.iload 6, 2) := by decide +kernel
theorem dX9_goesRound_80 : decode cX9_goesRound 80 = .ok (.goto 4, 3) := by decide +kernel
theorem dX9_goesRound_83 : decode cX9_goesRound 83 = .ok (.iload_n 1, 1) := by decide +kernel
theorem dX9_goesRound_84 : decode cX9_goesRound 84 = .ok (.istore_n 1, 1) := by decide +kernel
theorem dX9_goesRound_85 : decode cX9_goesRound 85 = .ok (.aload_n 0, 1) := by decide +kernel
theorem dX9_goesRound_86 : decode cX9_goesRound 86 = .ok (.getfield 67, 3) := by decide +kernel
theorem dX9_goesRound_89 : decode cX9_goesRound 89 = .ok (.iload 4, 2) := by decide +kernel
theorem dX9_goesRound_91 : decode cX9_goesRound 91 = .ok (.iload_n 1, 1) := by decide +kernel
theorem dX9_goesRound_92 : decode cX9_goesRound 92 = .ok (.iastore, 1) := by decide +kernel
theorem dX9_goesRound_93 : decode cX9_goesRound 93 = .ok (.aload_n 0, 1) := by decide +kernel
theorem dX9_goesRound_94 : decode cX9_goesRound 94 = .ok (.getfield 70, 3) := by decide +kernel
theorem dX9_goesRound_97 : decode cX9_goesRound 97 = .ok (.iload 4, 2) := by decide +kernel
theorem dX9_goesRound_99 : decode cX9_goesRound 99 = .ok (.iload_n 3, 1) := by decide +kernel
theorem dX9_goesRound_100 : decode cX9_goesRound 100 = .ok (.iastore, 1) := by decide +kernel
theorem dX9_goesRound_101 : decode cX9_goesRound 101 = .ok (.iload_n 1, 1) := by decide +kernel
theorem dX9_goesRound_102 : decode cX9_goesRound 102 = .ok (.aload_n 0, 1) := by decide +kernel
theorem dX9_goesRound_103 : decode cX9_goesRound 103 = .ok (.iload 4, 2) := by decide +kernel
theorem dX9_goesRound_105 : decode cX9_goesRound 105 = .ok (.invokevirtual 163, 3) := by decide +kernel
theorem dX9_goesRound_108 : decode cX9_goesRound 108 = .ok (.iadd, 1) := by decide +kernel
theorem dX9_goesRound_109 : decode cX9_goesRound 109 = .ok (.istore_n 1, 1) := by decide +kernel
theorem dX9_goesRound_110 : decode cX9_goesRound 110 = .ok (.iinc 3 1, 3) := by decide +kernel
theorem dX9_goesRound_113 : decode cX9_goesRound 113 = .ok (.goto (-104), 3) := by decide +kernel
theorem dX9_goesRound_116 : decode cX9_goesRound 116 = .ok (.iload_n 1, 1) := by decide +kernel
theorem dX9_goesRound_117 : decode cX9_goesRound 117 = .ok (.ireturn, 1) := by decide +kernel
theorem dX9_isKept_0 : decode cX9_isKept 0 = .ok (.aload_n 0, 1) := by decide +kernel
theorem dX9_isKept_1 : decode cX9_isKept 1 = .ok (.getfield 16, 3) := by decide +kernel
theorem dX9_isKept_4 : decode cX9_isKept 4 = .ok (.iload_n 1, 1) := by decide +kernel
theorem dX9_isKept_5 : decode cX9_isKept 5 = .ok (.iaload, 1) := by decide +kernel
theorem dX9_isKept_6 : decode cX9_isKept 6 = .ok (.istore_n 2, 1) := by decide +kernel
theorem dX9_isKept_7 : decode cX9_isKept 7 = .ok (.aload_n 0, 1) := by decide +kernel
theorem dX9_isKept_8 : decode cX9_isKept 8 = .ok (.getfield 19, 3) := by decide +kernel
theorem dX9_isKept_11 : decode cX9_isKept 11 = .ok (.iload_n 1, 1) := by decide +kernel
theorem dX9_isKept_12 : decode cX9_isKept 12 = .ok (.iaload, 1) := by decide +kernel
theorem dX9_isKept_13 : decode cX9_isKept 13 = .ok (.istore_n 3, 1) := by decide +kernel
theorem dX9_isKept_14 : decode cX9_isKept 14 = .ok (.aload_n 0, 1) := by decide +kernel
theorem dX9_isKept_15 : decode cX9_isKept 15 = .ok (.getfield 13, 3) := by decide +kernel
theorem dX9_isKept_18 : decode cX9_isKept 18 = .ok (.iload_n 1, 1) := by decide +kernel
theorem dX9_isKept_19 : decode cX9_isKept 19 = .ok (.iaload, 1) := by decide +kernel
theorem dX9_isKept_20 : decode cX9_isKept 20 = .ok (.tableswitch 93 0 3 #[32, 53, 76, 91], 32) := by decide +kernel
theorem dX9_isKept_52 : decode cX9_isKept 52 = .ok (.aload_n 0, 1) := by decide +kernel
theorem dX9_isKept_53 : decode cX9_isKept 53 = .ok (.getfield 70, 3) := by decide +kernel
theorem dX9_isKept_56 : decode cX9_isKept 56 = .ok (.iload_n 2, 1) := by decide +kernel
theorem dX9_isKept_57 : decode cX9_isKept 57 = .ok (.iaload, 1) := by decide +kernel
theorem dX9_isKept_58 : decode cX9_isKept 58 = .ok (.aload_n 0, 1) := by decide +kernel
theorem dX9_isKept_59 : decode cX9_isKept 59 = .ok (.getfield 70, 3) := by decide +kernel
theorem dX9_isKept_62 : decode cX9_isKept 62 = .ok (.iload_n 3, 1) := by decide +kernel
theorem dX9_isKept_63 : decode cX9_isKept 63 = .ok (.iaload, 1) := by decide +kernel
theorem dX9_isKept_64 : decode cX9_isKept 64 = .ok (.if_icmp .ge 7, 3) := by decide +kernel
theorem dX9_isKept_67 : decode cX9_isKept 67 = .ok (.iconst 1, 1) := by decide +kernel
theorem dX9_isKept_68 : decode cX9_isKept 68 = .ok (.goto 4, 3) := by decide +kernel
theorem dX9_isKept_71 : decode cX9_isKept 71 = .ok (.iconst 0, 1) := by decide +kernel
theorem dX9_isKept_72 : decode cX9_isKept 72 = .ok (.ireturn, 1) := by decide +kernel
theorem dX9_isKept_73 : decode cX9_isKept 73 = .ok (.aload_n 0, 1) := by decide +kernel
theorem dX9_isKept_74 : decode cX9_isKept 74 = .ok (.getfield 70, 3) := by decide +kernel
theorem dX9_isKept_77 : decode cX9_isKept 77 = .ok (.iload_n 2, 1) := by decide +kernel
theorem dX9_isKept_78 : decode cX9_isKept 78 = .ok (.iaload, 1) := by decide +kernel
theorem dX9_isKept_79 : decode cX9_isKept 79 = .ok (.aload_n 0, 1) := by decide +kernel
theorem dX9_isKept_80 : decode cX9_isKept 80 = .ok (.getfield 70, 3) := by decide +kernel
theorem dX9_isKept_83 : decode cX9_isKept 83 = .ok (.iload_n 3, 1) := by decide +kernel
theorem dX9_isKept_84 : decode cX9_isKept 84 = .ok (.iaload, 1) := by decide +kernel
theorem dX9_isKept_85 : decode cX9_isKept 85 = .ok (.iconst 1, 1) := by decide +kernel
theorem dX9_isKept_86 : decode cX9_isKept 86 = .ok (.iadd, 1) := by decide +kernel
theorem dX9_isKept_87 : decode cX9_isKept 87 = .ok (.if_icmp .ne 7, 3) := by decide +kernel
theorem dX9_isKept_90 : decode cX9_isKept 90 = .ok (.iconst 1, 1) := by decide +kernel
theorem dX9_isKept_91 : decode cX9_isKept 91 = .ok (.goto 4, 3) := by decide +kernel
theorem dX9_isKept_94 : decode cX9_isKept 94 = .ok (.iconst 0, 1) := by decide +kernel
theorem dX9_isKept_95 : decode cX9_isKept 95 = .ok (.ireturn, 1) := by decide +kernel
theorem dX9_isKept_96 : decode cX9_isKept 96 = .ok (.aload_n 0, 1) := by decide +kernel
theorem dX9_isKept_97 : decode cX9_isKept 97 = .ok (.getfield 70, 3) := by decide +kernel
theorem dX9_isKept_100 : decode cX9_isKept 100 = .ok (.iload_n 2, 1) := by decide +kernel
theorem dX9_isKept_101 : decode cX9_isKept 101 = .ok (.iaload, 1) := by decide +kernel
theorem dX9_isKept_102 : decode cX9_isKept 102 = .ok (.ifCond .ne 7, 3) := by decide +kernel
theorem dX9_isKept_105 : decode cX9_isKept 105 = .ok (.iconst 1, 1) := by decide +kernel
theorem dX9_isKept_106 : decode cX9_isKept 106 = .ok (.goto 4, 3) := by decide +kernel
theorem dX9_isKept_109 : decode cX9_isKept 109 = .ok (.iconst 0, 1) := by decide +kernel
theorem dX9_isKept_110 : decode cX9_isKept 110 = .ok (.ireturn, 1) := by decide +kernel
theorem dX9_isKept_111 : decode cX9_isKept 111 = .ok (.iconst 1, 1) := by decide +kernel
theorem dX9_isKept_112 : decode cX9_isKept 112 = .ok (.ireturn, 1) := by decide +kernel
theorem dX9_isKept_113 : decode cX9_isKept 113 = .ok (.aload_n 0, 1) := by decide +kernel
theorem dX9_isKept_114 : decode cX9_isKept 114 = .ok (.getfield 67, 3) := by decide +kernel
theorem dX9_isKept_117 : decode cX9_isKept 117 = .ok (.iload_n 2, 1) := by decide +kernel
theorem dX9_isKept_118 : decode cX9_isKept 118 = .ok (.iaload, 1) := by decide +kernel
theorem dX9_isKept_119 : decode cX9_isKept 119 = .ok (.iload_n 3, 1) := by decide +kernel
theorem dX9_isKept_120 : decode cX9_isKept 120 = .ok (.if_icmp .gt 7, 3) := by decide +kernel
theorem dX9_isKept_123 : decode cX9_isKept 123 = .ok (.iconst 1, 1) := by decide +kernel
theorem dX9_isKept_124 : decode cX9_isKept 124 = .ok (.goto 4, 3) := by decide +kernel
theorem dX9_isKept_127 : decode cX9_isKept 127 = .ok (.iconst 0, 1) := by decide +kernel
theorem dX9_isKept_128 : decode cX9_isKept 128 = .ok (.ireturn, 1) := by decide +kernel
set_option maxRecDepth 20000 in
theorem ggX9_findRounds_X9_standing : GoodIn wsX9_findRounds wsX9_standing := goodIn_r _ [15, 9, 16, 17, 18, 19, 20, 14, 21, 22, 23, 24, 25, 26, 55, 56, 57, 58, 59, 60, 61, 62, 63, 64, 65, 66, 67, 68, 69, 70, 71, 72, 73, 74, 75, 76, 77, 78, 79, 80, 81, 82, 83, 84, 85, 86, 87, 88, 89, 90] (by decide +kernel) (by decide +kernel)
set_option maxRecDepth 20000 in
theorem gX9_findRounds_X9_standing : GoodIn wsX9_findRounds (wsV RX9 169 RX9 yX9_standing wsX9_standing) := goodIn_app (goodIn_of _ (by decide +kernel)) ggX9_findRounds_X9_standing
set_option maxRecDepth 20000 in
theorem ggX9_findRounds_X9_has : GoodIn wsX9_findRounds wsX9_has := goodIn_r _ [21] (by decide +kernel) (by decide +kernel)
set_option maxRecDepth 20000 in
theorem gX9_findRounds_X9_has : GoodIn wsX9_findRounds (va_wsS RX9 104 yX9_has wsX9_has) := goodIn_app (goodIn_of _ (by decide +kernel)) ggX9_findRounds_X9_has
set_option maxRecDepth 20000 in
theorem ggX9_findRounds_X9_goesRound : GoodIn wsX9_findRounds wsX9_goesRound := goodIn_r _ [30, 31, 3, 5, 16, 32, 33, 34, 35, 36, 14, 37, 9, 2, 26, 17, 18, 19, 20, 21, 38, 39, 40, 41, 42, 55, 56, 57, 58, 59, 60, 61, 62, 63, 64, 65, 66, 67, 68, 69, 70, 71, 72, 73, 74, 75, 76, 77, 78, 79, 80, 81, 82, 83, 84, 85, 86, 87, 88, 89, 90] (by decide +kernel) (by decide +kernel)
set_option maxRecDepth 20000 in
theorem gX9_findRounds_X9_goesRound : GoodIn wsX9_findRounds (wsV RX9 200 RX9 yX9_goesRound wsX9_goesRound) := goodIn_app (goodIn_of _ (by decide +kernel)) ggX9_findRounds_X9_goesRound
set_option maxRecDepth 20000 in
theorem ggX9_findRounds_X9_isKept : GoodIn wsX9_findRounds wsX9_isKept := goodIn_r _ [46, 17, 18, 26, 33, 32, 55, 56, 57, 58, 59, 60, 61, 62, 63, 64, 65, 66, 67, 68, 69, 70, 71, 72, 73, 74, 75, 76, 77, 78, 79, 80, 81, 82, 83, 84, 85, 86, 87, 88, 89, 90] (by decide +kernel) (by decide +kernel)
set_option maxRecDepth 20000 in
theorem gX9_findRounds_X9_isKept : GoodIn wsX9_findRounds (wsV RX9 203 RX9 yX9_isKept wsX9_isKept) := goodIn_app (goodIn_of _ (by decide +kernel)) ggX9_findRounds_X9_isKept
set_option maxRecDepth 20000 in
theorem ggX9_findRounds_X9_nextOrder : GoodIn wsX9_findRounds wsX9_nextOrder := goodIn_r _ [50, 3, 5, 51, 52, 53, 14, 54, 55, 56, 57, 58, 59, 60, 61, 62, 63, 64, 65, 66, 67, 68, 69, 70, 71, 72, 73, 74, 75, 76, 77, 78, 79, 80, 81, 82, 83, 84, 85, 86, 87, 88, 89, 90] (by decide +kernel) (by decide +kernel)
set_option maxRecDepth 20000 in
theorem gX9_findRounds_X9_nextOrder : GoodIn wsX9_findRounds (wsV RX9 206 RX9 yX9_nextOrder wsX9_nextOrder) := goodIn_app (goodIn_of _ (by decide +kernel)) ggX9_findRounds_X9_nextOrder
theorem dX9_findRounds_0 : decode cX9_findRounds 0 = .ok (.aload_n 0, 1) := by decide +kernel
theorem dX9_findRounds_1 : decode cX9_findRounds 1 = .ok (.iload_n 1, 1) := by decide +kernel
theorem dX9_findRounds_2 : decode cX9_findRounds 2 = .ok (.putfield 194, 3) := by decide +kernel
theorem dX9_findRounds_5 : decode cX9_findRounds 5 = .ok (.aload_n 0, 1) := by decide +kernel
theorem dX9_findRounds_6 : decode cX9_findRounds 6 = .ok (.aload_n 0, 1) := by decide +kernel
theorem dX9_findRounds_7 : decode cX9_findRounds 7 = .ok (.iload_n 1, 1) := by decide +kernel
theorem dX9_findRounds_8 : decode cX9_findRounds 8 = .ok (.invokevirtual 169, 3) := by decide +kernel
theorem dX9_findRounds_11 : decode cX9_findRounds 11 = .ok (.putfield 188, 3) := by decide +kernel
theorem dX9_findRounds_14 : decode cX9_findRounds 14 = .ok (.aload_n 0, 1) := by decide +kernel
theorem dX9_findRounds_15 : decode cX9_findRounds 15 = .ok (.iconst 0, 1) := by decide +kernel
theorem dX9_findRounds_16 : decode cX9_findRounds 16 = .ok (.putfield 182, 3) := by decide +kernel
theorem dX9_findRounds_19 : decode cX9_findRounds 19 = .ok (.iconst 0, 1) := by decide +kernel
theorem dX9_findRounds_20 : decode cX9_findRounds 20 = .ok (.istore_n 2, 1) := by decide +kernel
theorem dX9_findRounds_21 : decode cX9_findRounds 21 = .ok (.iload_n 2, 1) := by decide +kernel
theorem dX9_findRounds_22 : decode cX9_findRounds 22 = .ok (.aload_n 0, 1) := by decide +kernel
theorem dX9_findRounds_23 : decode cX9_findRounds 23 = .ok (.getfield 97, 3) := by decide +kernel
theorem dX9_findRounds_26 : decode cX9_findRounds 26 = .ok (.if_icmp .ge 37, 3) := by decide +kernel
theorem dX9_findRounds_29 : decode cX9_findRounds 29 = .ok (.iload_n 1, 1) := by decide +kernel
theorem dX9_findRounds_30 : decode cX9_findRounds 30 = .ok (.iload_n 2, 1) := by decide +kernel
theorem dX9_findRounds_31 : decode cX9_findRounds 31 = .ok (.invokestatic 104, 3) := by decide +kernel
theorem dX9_findRounds_34 : decode cX9_findRounds 34 = .ok (.ifCond .eq 23, 3) := by decide +kernel
theorem dX9_findRounds_37 : decode cX9_findRounds 37 = .ok (.aload_n 0, 1) := by decide +kernel
theorem dX9_findRounds_38 : decode cX9_findRounds 38 = .ok (.getfield 64, 3) := by decide +kernel
theorem dX9_findRounds_41 : decode cX9_findRounds 41 = .ok (.aload_n 0, 1) := by decide +kernel
theorem dX9_findRounds_42 : decode cX9_findRounds 42 = .ok (.getfield 182, 3) := by decide +kernel
theorem dX9_findRounds_45 : decode cX9_findRounds 45 = .ok (.iload_n 2, 1) := by decide +kernel
theorem dX9_findRounds_46 : decode cX9_findRounds 46 = .ok (.iastore, 1) := by decide +kernel
theorem dX9_findRounds_47 : decode cX9_findRounds 47 = .ok (.aload_n 0, 1) := by decide +kernel
theorem dX9_findRounds_48 : decode cX9_findRounds 48 = .ok (.dup, 1) := by decide +kernel
theorem dX9_findRounds_49 : decode cX9_findRounds 49 = .ok (.getfield 182, 3) := by decide +kernel
theorem dX9_findRounds_52 : decode cX9_findRounds 52 = .ok (.iconst 1, 1) := by decide +kernel
theorem dX9_findRounds_53 : decode cX9_findRounds 53 = .ok (.iadd, 1) := by decide +kernel
theorem dX9_findRounds_54 : decode cX9_findRounds 54 = .ok (.putfield 182, 3) := by decide +kernel
theorem dX9_findRounds_57 : decode cX9_findRounds 57 = .ok (.iinc 2 1, 3) := by decide +kernel
theorem dX9_findRounds_60 : decode cX9_findRounds 60 = .ok (.goto (-39), 3) := by decide +kernel
theorem dX9_findRounds_63 : decode cX9_findRounds 63 = .ok (.aload_n 0, 1) := by decide +kernel
theorem dX9_findRounds_64 : decode cX9_findRounds 64 = .ok (.iconst 0, 1) := by decide +kernel
theorem dX9_findRounds_65 : decode cX9_findRounds 65 = .ok (.putfield 197, 3) := by decide +kernel
theorem dX9_findRounds_68 : decode cX9_findRounds 68 = .ok (.iconst 1, 1) := by decide +kernel
theorem dX9_findRounds_69 : decode cX9_findRounds 69 = .ok (.istore_n 2, 1) := by decide +kernel
theorem dX9_findRounds_70 : decode cX9_findRounds 70 = .ok (.iload_n 2, 1) := by decide +kernel
theorem dX9_findRounds_71 : decode cX9_findRounds 71 = .ok (.ifCond .eq 134, 3) := by decide +kernel
theorem dX9_findRounds_74 : decode cX9_findRounds 74 = .ok (.aload_n 0, 1) := by decide +kernel
theorem dX9_findRounds_75 : decode cX9_findRounds 75 = .ok (.getfield 61, 3) := by decide +kernel
theorem dX9_findRounds_78 : decode cX9_findRounds 78 = .ok (.aload_n 0, 1) := by decide +kernel
theorem dX9_findRounds_79 : decode cX9_findRounds 79 = .ok (.getfield 197, 3) := by decide +kernel
theorem dX9_findRounds_82 : decode cX9_findRounds 82 = .ok (.aload_n 0, 1) := by decide +kernel
theorem dX9_findRounds_83 : decode cX9_findRounds 83 = .ok (.invokevirtual 200, 3) := by decide +kernel
theorem dX9_findRounds_86 : decode cX9_findRounds 86 = .ok (.iastore, 1) := by decide +kernel
theorem dX9_findRounds_87 : decode cX9_findRounds 87 = .ok (.aload_n 0, 1) := by decide +kernel
theorem dX9_findRounds_88 : decode cX9_findRounds 88 = .ok (.getfield 58, 3) := by decide +kernel
theorem dX9_findRounds_91 : decode cX9_findRounds 91 = .ok (.aload_n 0, 1) := by decide +kernel
theorem dX9_findRounds_92 : decode cX9_findRounds 92 = .ok (.getfield 197, 3) := by decide +kernel
theorem dX9_findRounds_95 : decode cX9_findRounds 95 = .ok (.iconst 0, 1) := by decide +kernel
theorem dX9_findRounds_96 : decode cX9_findRounds 96 = .ok (.iastore, 1) := by decide +kernel
theorem dX9_findRounds_97 : decode cX9_findRounds 97 = .ok (.iconst 0, 1) := by decide +kernel
theorem dX9_findRounds_98 : decode cX9_findRounds 98 = .ok (.istore_n 3, 1) := by decide +kernel
theorem dX9_findRounds_99 : decode cX9_findRounds 99 = .ok (.iload_n 3, 1) := by decide +kernel
theorem dX9_findRounds_100 : decode cX9_findRounds 100 = .ok (.aload_n 0, 1) := by decide +kernel
theorem dX9_findRounds_101 : decode cX9_findRounds 101 = .ok (.getfield 145, 3) := by decide +kernel
theorem dX9_findRounds_104 : decode cX9_findRounds 104 = .ok (.if_icmp .ge 47, 3) := by decide +kernel
theorem dX9_findRounds_107 : decode cX9_findRounds 107 = .ok (.aload_n 0, 1) := by decide +kernel
theorem dX9_findRounds_108 : decode cX9_findRounds 108 = .ok (.getfield 58, 3) := by decide +kernel
theorem dX9_findRounds_111 : decode cX9_findRounds 111 = .ok (.aload_n 0, 1) := by decide +kernel
theorem dX9_findRounds_112 : decode cX9_findRounds 112 = .ok (.getfield 197, 3) := by decide +kernel
theorem dX9_findRounds_115 : decode cX9_findRounds 115 = .ok (.dup2, 1) := by decide +kernel
theorem dX9_findRounds_116 : decode cX9_findRounds 116 = .ok (.iaload, 1) := by decide +kernel
theorem dX9_findRounds_117 : decode cX9_findRounds 117 = .ok (.aload_n 0, 1) := by decide +kernel
theorem dX9_findRounds_118 : decode cX9_findRounds 118 = .ok (.getfield 188, 3) := by decide +kernel
theorem dX9_findRounds_121 : decode cX9_findRounds 121 = .ok (.iload_n 3, 1) := by decide +kernel
theorem dX9_findRounds_122 : decode cX9_findRounds 122 = .ok (.invokestatic 104, 3) := by decide +kernel
theorem dX9_findRounds_125 : decode cX9_findRounds 125 = .ok (.ifCond .eq 17, 3) := by decide +kernel
theorem dX9_findRounds_128 : decode cX9_findRounds 128 = .ok (.aload_n 0, 1) := by decide +kernel
theorem dX9_findRounds_129 : decode cX9_findRounds 129 = .ok (.iload_n 3, 1) := by decide +kernel
theorem dX9_findRounds_130 : decode cX9_findRounds 130 = .ok (.invokevirtual 203, 3) := by decide +kernel
theorem dX9_findRounds_133 : decode cX9_findRounds 133 = .ok (.ifCond .eq 9, 3) := by decide +kernel
theorem dX9_findRounds_136 : decode cX9_findRounds 136 = .ok (.iconst 1, 1) := by decide +kernel
theorem dX9_findRounds_137 : decode cX9_findRounds 137 = .ok (.iload_n 3, 1) := by decide +kernel
theorem dX9_findRounds_138 : decode cX9_findRounds 138 = .ok (.ishl, 1) := by decide +kernel
theorem dX9_findRounds_139 : decode cX9_findRounds 139 = .ok (.goto 4, 3) := by decide +kernel
theorem dX9_findRounds_142 : decode cX9_findRounds 142 = .ok (.iconst 0, 1) := by decide +kernel
theorem dX9_findRounds_143 : decode cX9_findRounds 143 = .ok (.ior, 1) := by decide +kernel
theorem dX9_findRounds_144 : decode cX9_findRounds 144 = .ok (.iastore, 1) := by decide +kernel
theorem dX9_findRounds_145 : decode cX9_findRounds 145 = .ok (.iinc 3 1, 3) := by decide +kernel
theorem dX9_findRounds_148 : decode cX9_findRounds 148 = .ok (.goto (-49), 3) := by decide +kernel
theorem dX9_findRounds_151 : decode cX9_findRounds 151 = .ok (.iconst 0, 1) := by decide +kernel
theorem dX9_findRounds_152 : decode cX9_findRounds 152 = .ok (.istore_n 3, 1) := by decide +kernel
theorem dX9_findRounds_153 : decode cX9_findRounds 153 = .ok (.iload_n 3, 1) := by decide +kernel
theorem dX9_findRounds_154 : decode cX9_findRounds 154 = .ok (.aload_n 0, 1) := by decide +kernel
theorem dX9_findRounds_155 : decode cX9_findRounds 155 = .ok (.getfield 182, 3) := by decide +kernel
theorem dX9_findRounds_158 : decode cX9_findRounds 158 = .ok (.if_icmp .ge 29, 3) := by decide +kernel
theorem dX9_findRounds_161 : decode cX9_findRounds 161 = .ok (.aload_n 0, 1) := by decide +kernel
theorem dX9_findRounds_162 : decode cX9_findRounds 162 = .ok (.getfield 55, 3) := by decide +kernel
theorem dX9_findRounds_165 : decode cX9_findRounds 165 = .ok (.bipush 6, 2) := by decide +kernel
theorem dX9_findRounds_167 : decode cX9_findRounds 167 = .ok (.aload_n 0, 1) := by decide +kernel
theorem dX9_findRounds_168 : decode cX9_findRounds 168 = .ok (.getfield 197, 3) := by decide +kernel
theorem dX9_findRounds_171 : decode cX9_findRounds 171 = .ok (.imul, 1) := by decide +kernel
theorem dX9_findRounds_172 : decode cX9_findRounds 172 = .ok (.iload_n 3, 1) := by decide +kernel
theorem dX9_findRounds_173 : decode cX9_findRounds 173 = .ok (.iadd, 1) := by decide +kernel
theorem dX9_findRounds_174 : decode cX9_findRounds 174 = .ok (.aload_n 0, 1) := by decide +kernel
theorem dX9_findRounds_175 : decode cX9_findRounds 175 = .ok (.getfield 64, 3) := by decide +kernel
theorem dX9_findRounds_178 : decode cX9_findRounds 178 = .ok (.iload_n 3, 1) := by decide +kernel
theorem dX9_findRounds_179 : decode cX9_findRounds 179 = .ok (.iaload, 1) := by decide +kernel
theorem dX9_findRounds_180 : decode cX9_findRounds 180 = .ok (.iastore, 1) := by decide +kernel
theorem dX9_findRounds_181 : decode cX9_findRounds 181 = .ok (.iinc 3 1, 3) := by decide +kernel
theorem dX9_findRounds_184 : decode cX9_findRounds 184 = .ok (.goto (-31), 3) := by decide +kernel
theorem dX9_findRounds_187 : decode cX9_findRounds 187 = .ok (.aload_n 0, 1) := by decide +kernel
theorem dX9_findRounds_188 : decode cX9_findRounds 188 = .ok (.dup, 1) := by decide +kernel
theorem dX9_findRounds_189 : decode cX9_findRounds 189 = .ok (.getfield 197, 3) := by decide +kernel
theorem dX9_findRounds_192 : decode cX9_findRounds 192 = .ok (.iconst 1, 1) := by decide +kernel
theorem dX9_findRounds_193 : decode cX9_findRounds 193 = .ok (.iadd, 1) := by decide +kernel
theorem dX9_findRounds_194 : decode cX9_findRounds 194 = .ok (.putfield 197, 3) := by decide +kernel
theorem dX9_findRounds_197 : decode cX9_findRounds 197 = .ok (.aload_n 0, 1) := by decide +kernel
theorem dX9_findRounds_198 : decode cX9_findRounds 198 = .ok (.invokevirtual 206, 3) := by decide +kernel
theorem dX9_findRounds_201 : decode cX9_findRounds 201 = .ok (.istore_n 2, 1) := by decide +kernel
theorem dX9_findRounds_202 : decode cX9_findRounds 202 = .ok (.goto (-132), 3) := by decide +kernel
theorem dX9_findRounds_205 : decode cX9_findRounds 205 = .ok (.return_, 1) := by decide +kernel
theorem dX9_isGood_0 : decode cX9_isGood 0 = .ok (.aload_n 0, 1) := by decide +kernel
theorem dX9_isGood_1 : decode cX9_isGood 1 = .ok (.getfield 58, 3) := by decide +kernel
theorem dX9_isGood_4 : decode cX9_isGood 4 = .ok (.iload_n 1, 1) := by decide +kernel
theorem dX9_isGood_5 : decode cX9_isGood 5 = .ok (.iaload, 1) := by decide +kernel
theorem dX9_isGood_6 : decode cX9_isGood 6 = .ok (.aload_n 0, 1) := by decide +kernel
theorem dX9_isGood_7 : decode cX9_isGood 7 = .ok (.getfield 188, 3) := by decide +kernel
theorem dX9_isGood_10 : decode cX9_isGood 10 = .ok (.if_icmp .ne 7, 3) := by decide +kernel
theorem dX9_isGood_13 : decode cX9_isGood 13 = .ok (.iconst 1, 1) := by decide +kernel
theorem dX9_isGood_14 : decode cX9_isGood 14 = .ok (.goto 4, 3) := by decide +kernel
theorem dX9_isGood_17 : decode cX9_isGood 17 = .ok (.iconst 0, 1) := by decide +kernel
theorem dX9_isGood_18 : decode cX9_isGood 18 = .ok (.ireturn, 1) := by decide +kernel
theorem dX9_placeIn_0 : decode cX9_placeIn 0 = .ok (.iconst 0, 1) := by decide +kernel
theorem dX9_placeIn_1 : decode cX9_placeIn 1 = .ok (.istore_n 3, 1) := by decide +kernel
theorem dX9_placeIn_2 : decode cX9_placeIn 2 = .ok (.aload_n 0, 1) := by decide +kernel
theorem dX9_placeIn_3 : decode cX9_placeIn 3 = .ok (.getfield 55, 3) := by decide +kernel
theorem dX9_placeIn_6 : decode cX9_placeIn 6 = .ok (.bipush 6, 2) := by decide +kernel
theorem dX9_placeIn_8 : decode cX9_placeIn 8 = .ok (.iload_n 1, 1) := by decide +kernel
theorem dX9_placeIn_9 : decode cX9_placeIn 9 = .ok (.imul, 1) := by decide +kernel
theorem dX9_placeIn_10 : decode cX9_placeIn 10 = .ok (.iload_n 3, 1) := by decide +kernel
theorem dX9_placeIn_11 : decode cX9_placeIn 11 = .ok (.iadd, 1) := by decide +kernel
theorem dX9_placeIn_12 : decode cX9_placeIn 12 = .ok (.iaload, 1) := by decide +kernel
theorem dX9_placeIn_13 : decode cX9_placeIn 13 = .ok (.iload_n 2, 1) := by decide +kernel
theorem dX9_placeIn_14 : decode cX9_placeIn 14 = .ok (.if_icmp .eq 9, 3) := by decide +kernel
theorem dX9_placeIn_17 : decode cX9_placeIn 17 = .ok (.iinc 3 1, 3) := by decide +kernel
theorem dX9_placeIn_20 : decode cX9_placeIn 20 = .ok (.goto (-18), 3) := by decide +kernel
theorem dX9_placeIn_23 : decode cX9_placeIn 23 = .ok (.iload_n 3, 1) := by decide +kernel
theorem dX9_placeIn_24 : decode cX9_placeIn 24 = .ok (.ireturn, 1) := by decide +kernel
set_option maxRecDepth 20000 in
theorem ggX9_good_X9_in : GoodIn wsX9_good wsX9_in := goodIn_r _ [8] (by decide +kernel) (by decide +kernel)
set_option maxRecDepth 20000 in
theorem gX9_good_X9_in : GoodIn wsX9_good (va_wsS RX9 100 yX9_in wsX9_in) := goodIn_app (goodIn_of _ (by decide +kernel)) ggX9_good_X9_in
set_option maxRecDepth 20000 in
theorem ggX9_good_X9_findRounds : GoodIn wsX9_good wsX9_findRounds := goodIn_r _ [12, 13, 14, 3, 15, 16, 2, 17, 18, 19, 4, 20, 21, 22, 7, 23, 1, 24, 25, 26, 27, 28, 29, 30, 31, 32, 33, 34, 35, 36, 37, 38, 39, 40, 41, 42, 43, 44, 45, 46, 47, 48, 49, 50, 51, 52, 53, 54, 55, 56, 57, 58, 59, 60, 61, 66, 67, 68, 69, 70, 71, 72, 73, 74, 75, 76, 77, 78, 79, 80, 81, 82, 83, 84, 85, 86, 87, 88, 89, 90, 91, 92, 93, 94, 95, 96, 97, 98, 99, 100, 101] (by decide +kernel) (by decide +kernel)
set_option maxRecDepth 20000 in
theorem gX9_good_X9_findRounds : GoodIn wsX9_good (wsV RX9 209 RX9 yX9_findRounds wsX9_findRounds) := goodIn_app (goodIn_of _ (by decide +kernel)) ggX9_good_X9_findRounds
set_option maxRecDepth 20000 in
theorem ggX9_good_X9_isGood : GoodIn wsX9_good wsX9_isGood := goodIn_r _ [65, 18, 14, 66, 67, 68, 69, 70, 71, 72, 73, 74, 75, 76, 77, 78, 79, 80, 81, 82, 83, 84, 85, 86, 87, 88, 89, 90, 91, 92, 93, 94, 95, 96, 97, 98, 99, 100, 101] (by decide +kernel) (by decide +kernel)
set_option maxRecDepth 20000 in
theorem gX9_good_X9_isGood : GoodIn wsX9_good (wsV RX9 213 RX9 yX9_isGood wsX9_isGood) := goodIn_app (goodIn_of _ (by decide +kernel)) ggX9_good_X9_isGood
theorem dX9_good_0 : decode cX9_good 0 = .ok (.iload_n 1, 1) := by decide +kernel
theorem dX9_good_1 : decode cX9_good 1 = .ok (.iconst 0, 1) := by decide +kernel
theorem dX9_good_2 : decode cX9_good 2 = .ok (.bipush 6, 2) := by decide +kernel
theorem dX9_good_4 : decode cX9_good 4 = .ok (.invokestatic 100, 3) := by decide +kernel
theorem dX9_good_7 : decode cX9_good 7 = .ok (.ifCond .ne 5, 3) := by decide +kernel
theorem dX9_good_10 : decode cX9_good 10 = .ok (.iconst (-1), 1) := by decide +kernel
theorem dX9_good_11 : decode cX9_good 11 = .ok (.ireturn, 1) := by decide +kernel
theorem dX9_good_12 : decode cX9_good 12 = .ok (.aload_n 0, 1) := by decide +kernel
theorem dX9_good_13 : decode cX9_good 13 = .ok (.aload_n 0, 1) := by decide +kernel
theorem dX9_good_14 : decode cX9_good 14 = .ok (.getfield 22, 3) := by decide +kernel
theorem dX9_good_17 : decode cX9_good 17 = .ok (.iconst 0, 1) := by decide +kernel
theorem dX9_good_18 : decode cX9_good 18 = .ok (.iaload, 1) := by decide +kernel
theorem dX9_good_19 : decode cX9_good 19 = .ok (.invokevirtual 209, 3) := by decide +kernel
theorem dX9_good_22 : decode cX9_good 22 = .ok (.iconst 0, 1) := by decide +kernel
theorem dX9_good_23 : decode cX9_good 23 = .ok (.istore_n 2, 1) := by decide +kernel
theorem dX9_good_24 : decode cX9_good 24 = .ok (.iconst (-1), 1) := by decide +kernel
theorem dX9_good_25 : decode cX9_good 25 = .ok (.istore_n 3, 1) := by decide +kernel
theorem dX9_good_26 : decode cX9_good 26 = .ok (.aload_n 0, 1) := by decide +kernel
theorem dX9_good_27 : decode cX9_good 27 = .ok (.getfield 197, 3) := by decide +kernel
theorem dX9_good_30 : decode cX9_good 30 = .ok (.iconst 1, 1) := by decide +kernel
theorem dX9_good_31 : decode cX9_good 31 = .ok (.isub, 1) := by decide +kernel
theorem dX9_good_32 : decode cX9_good 32 = .ok (.istore 4, 2) := by decide +kernel
theorem dX9_good_34 : decode cX9_good 34 = .ok (.iload 4, 2) := by decide +kernel
theorem dX9_good_36 : decode cX9_good 36 = .ok (.ifCond .lt 42, 3) := by decide +kernel
theorem dX9_good_39 : decode cX9_good 39 = .ok (.iload_n 2, 1) := by decide +kernel
theorem dX9_good_40 : decode cX9_good 40 = .ok (.aload_n 0, 1) := by decide +kernel
theorem dX9_good_41 : decode cX9_good 41 = .ok (.iload 4, 2) := by decide +kernel
theorem dX9_good_43 : decode cX9_good 43 = .ok (.invokevirtual 213, 3) := by decide +kernel
theorem dX9_good_46 : decode cX9_good 46 = .ok (.ifCond .eq 7, 3) := by decide +kernel
theorem dX9_good_49 : decode cX9_good 49 = .ok (.iconst 1, 1) := by decide +kernel
theorem dX9_good_50 : decode cX9_good 50 = .ok (.goto 4, 3) := by decide +kernel
theorem dX9_good_53 : decode cX9_good 53 = .ok (.iconst 0, 1) := by decide +kernel
theorem dX9_good_54 : decode cX9_good 54 = .ok (.iadd, 1) := by decide +kernel
theorem dX9_good_55 : decode cX9_good 55 = .ok (.istore_n 2, 1) := by decide +kernel
theorem dX9_good_56 : decode cX9_good 56 = .ok (.aload_n 0, 1) := by decide +kernel
theorem dX9_good_57 : decode cX9_good 57 = .ok (.iload 4, 2) := by decide +kernel
theorem dX9_good_59 : decode cX9_good 59 = .ok (.invokevirtual 213, 3) := by decide +kernel
theorem dX9_good_62 : decode cX9_good 62 = .ok (.ifCond .eq 8, 3) := by decide +kernel
theorem dX9_good_65 : decode cX9_good 65 = .ok (.iload 4, 2) := by decide +kernel
theorem dX9_good_67 : decode cX9_good 67 = .ok (.goto 4, 3) := by decide +kernel
theorem dX9_good_70 : decode cX9_good 70 = .ok (.iload_n 3, 1) := by decide +kernel
theorem dX9_good_71 : decode cX9_good 71 = .ok (.istore_n 3, 1) := by decide +kernel
theorem dX9_good_72 : decode cX9_good 72 = .ok (.iinc 4 (-1), 3) := by decide +kernel
theorem dX9_good_75 : decode cX9_good 75 = .ok (.goto (-41), 3) := by decide +kernel
theorem dX9_good_78 : decode cX9_good 78 = .ok (.iload_n 1, 1) := by decide +kernel
theorem dX9_good_79 : decode cX9_good 79 = .ok (.ifCond .ne 7, 3) := by decide +kernel
theorem dX9_good_82 : decode cX9_good 82 = .ok (.iload_n 2, 1) := by decide +kernel
theorem dX9_good_83 : decode cX9_good 83 = .ok (.goto 33, 3) := by decide +kernel
theorem dX9_good_86 : decode cX9_good 86 = .ok (.iload_n 3, 1) := by decide +kernel
theorem dX9_good_87 : decode cX9_good 87 = .ok (.ifCond .lt 11, 3) := by decide +kernel
theorem dX9_good_90 : decode cX9_good 90 = .ok (.iload_n 1, 1) := by decide +kernel
theorem dX9_good_91 : decode cX9_good 91 = .ok (.aload_n 0, 1) := by decide +kernel
theorem dX9_good_92 : decode cX9_good 92 = .ok (.getfield 182, 3) := by decide +kernel
theorem dX9_good_95 : decode cX9_good 95 = .ok (.if_icmp .le 8, 3) := by decide +kernel
theorem dX9_good_98 : decode cX9_good 98 = .ok (.bipush (-4), 2) := by decide +kernel
theorem dX9_good_100 : decode cX9_good 100 = .ok (.goto 16, 3) := by decide +kernel
theorem dX9_good_103 : decode cX9_good 103 = .ok (.aload_n 0, 1) := by decide +kernel
theorem dX9_good_104 : decode cX9_good 104 = .ok (.getfield 55, 3) := by decide +kernel
theorem dX9_good_107 : decode cX9_good 107 = .ok (.bipush 6, 2) := by decide +kernel
theorem dX9_good_109 : decode cX9_good 109 = .ok (.iload_n 3, 1) := by decide +kernel
theorem dX9_good_110 : decode cX9_good 110 = .ok (.imul, 1) := by decide +kernel
theorem dX9_good_111 : decode cX9_good 111 = .ok (.iload_n 1, 1) := by decide +kernel
theorem dX9_good_112 : decode cX9_good 112 = .ok (.iadd, 1) := by decide +kernel
theorem dX9_good_113 : decode cX9_good 113 = .ok (.iconst 1, 1) := by decide +kernel
theorem dX9_good_114 : decode cX9_good 114 = .ok (.isub, 1) := by decide +kernel
theorem dX9_good_115 : decode cX9_good 115 = .ok (.iaload, 1) := by decide +kernel
theorem dX9_good_116 : decode cX9_good 116 = .ok (.ireturn, 1) := by decide +kernel
set_option maxRecDepth 20000 in
theorem ggX9_soonestRound_X9_isGood : GoodIn wsX9_soonestRound wsX9_isGood := goodIn_r _ [7, 8, 9, 10, 11, 12, 13, 14, 15, 16, 17, 18, 19, 20, 21, 22, 23, 24, 25, 26, 27, 28, 29, 30, 31, 32, 33, 34, 35, 36, 37, 38, 39, 40, 41, 42, 43, 44, 45] (by decide +kernel) (by decide +kernel)
set_option maxRecDepth 20000 in
theorem gX9_soonestRound_X9_isGood : GoodIn wsX9_soonestRound (wsV RX9 213 RX9 yX9_isGood wsX9_isGood) := goodIn_app (goodIn_of _ (by decide +kernel)) ggX9_soonestRound_X9_isGood
theorem dX9_soonestRound_0 : decode cX9_soonestRound 0 = .ok (.iconst (-1), 1) := by decide +kernel
theorem dX9_soonestRound_1 : decode cX9_soonestRound 1 = .ok (.istore_n 1, 1) := by decide +kernel
theorem dX9_soonestRound_2 : decode cX9_soonestRound 2 = .ok (.iconst 0, 1) := by decide +kernel
theorem dX9_soonestRound_3 : decode cX9_soonestRound 3 = .ok (.istore_n 2, 1) := by decide +kernel
theorem dX9_soonestRound_4 : decode cX9_soonestRound 4 = .ok (.iload_n 2, 1) := by decide +kernel
theorem dX9_soonestRound_5 : decode cX9_soonestRound 5 = .ok (.aload_n 0, 1) := by decide +kernel
theorem dX9_soonestRound_6 : decode cX9_soonestRound 6 = .ok (.getfield 197, 3) := by decide +kernel
theorem dX9_soonestRound_9 : decode cX9_soonestRound 9 = .ok (.if_icmp .ge 42, 3) := by decide +kernel
theorem dX9_soonestRound_12 : decode cX9_soonestRound 12 = .ok (.aload_n 0, 1) := by decide +kernel
theorem dX9_soonestRound_13 : decode cX9_soonestRound 13 = .ok (.iload_n 2, 1) := by decide +kernel
theorem dX9_soonestRound_14 : decode cX9_soonestRound 14 = .ok (.invokevirtual 213, 3) := by decide +kernel
theorem dX9_soonestRound_17 : decode cX9_soonestRound 17 = .ok (.ifCond .eq 26, 3) := by decide +kernel
theorem dX9_soonestRound_20 : decode cX9_soonestRound 20 = .ok (.iload_n 1, 1) := by decide +kernel
theorem dX9_soonestRound_21 : decode cX9_soonestRound 21 = .ok (.ifCond .lt 18, 3) := by decide +kernel
theorem dX9_soonestRound_24 : decode cX9_soonestRound 24 = .ok (.aload_n 0, 1) := by decide +kernel
theorem dX9_soonestRound_25 : decode cX9_soonestRound 25 = .ok (.getfield 61, 3) := by decide +kernel
theorem dX9_soonestRound_28 : decode cX9_soonestRound 28 = .ok (.iload_n 2, 1) := by decide +kernel
theorem dX9_soonestRound_29 : decode cX9_soonestRound 29 = .ok (.iaload, 1) := by decide +kernel
theorem dX9_soonestRound_30 : decode cX9_soonestRound 30 = .ok (.aload_n 0, 1) := by decide +kernel
theorem dX9_soonestRound_31 : decode cX9_soonestRound 31 = .ok (.getfield 61, 3) := by decide +kernel
theorem dX9_soonestRound_34 : decode cX9_soonestRound 34 = .ok (.iload_n 1, 1) := by decide +kernel
theorem dX9_soonestRound_35 : decode cX9_soonestRound 35 = .ok (.iaload, 1) := by decide +kernel
theorem dX9_soonestRound_36 : decode cX9_soonestRound 36 = .ok (.if_icmp .ge 7, 3) := by decide +kernel
theorem dX9_soonestRound_39 : decode cX9_soonestRound 39 = .ok (.iload_n 2, 1) := by decide +kernel
theorem dX9_soonestRound_40 : decode cX9_soonestRound 40 = .ok (.goto 4, 3) := by decide +kernel
theorem dX9_soonestRound_43 : decode cX9_soonestRound 43 = .ok (.iload_n 1, 1) := by decide +kernel
theorem dX9_soonestRound_44 : decode cX9_soonestRound 44 = .ok (.istore_n 1, 1) := by decide +kernel
theorem dX9_soonestRound_45 : decode cX9_soonestRound 45 = .ok (.iinc 2 1, 3) := by decide +kernel
theorem dX9_soonestRound_48 : decode cX9_soonestRound 48 = .ok (.goto (-44), 3) := by decide +kernel
theorem dX9_soonestRound_51 : decode cX9_soonestRound 51 = .ok (.iload_n 1, 1) := by decide +kernel
theorem dX9_soonestRound_52 : decode cX9_soonestRound 52 = .ok (.ireturn, 1) := by decide +kernel
set_option maxRecDepth 20000 in
theorem ggX9_soonest_X9_in : GoodIn wsX9_soonest wsX9_in := goodIn_r _ [8] (by decide +kernel) (by decide +kernel)
set_option maxRecDepth 20000 in
theorem gX9_soonest_X9_in : GoodIn wsX9_soonest (va_wsS RX9 100 yX9_in wsX9_in) := goodIn_app (goodIn_of _ (by decide +kernel)) ggX9_soonest_X9_in
set_option maxRecDepth 20000 in
theorem ggX9_soonest_X9_findRounds : GoodIn wsX9_soonest wsX9_findRounds := goodIn_r _ [12, 13, 14, 2, 15, 16, 17, 3, 18, 19, 4, 20, 21, 22, 7, 23, 1, 24, 25, 26, 27, 28, 29, 30, 31, 32, 33, 34, 35, 36, 37, 38, 39, 40, 41, 42, 43, 44, 45, 46, 47, 48, 49, 50, 51, 52, 53, 54, 55, 56, 57, 58, 59, 60, 61, 70, 71, 72, 73, 74, 75, 76, 77, 78, 79, 80, 81, 82, 83, 84, 85, 86, 87, 88, 89, 90, 91, 92, 93, 94, 95, 96, 97, 98, 99, 100, 101, 102, 103, 104, 105] (by decide +kernel) (by decide +kernel)
set_option maxRecDepth 20000 in
theorem gX9_soonest_X9_findRounds : GoodIn wsX9_soonest (wsV RX9 209 RX9 yX9_findRounds wsX9_findRounds) := goodIn_app (goodIn_of _ (by decide +kernel)) ggX9_soonest_X9_findRounds
set_option maxRecDepth 20000 in
theorem ggX9_soonest_X9_soonestRound : GoodIn wsX9_soonest wsX9_soonestRound := goodIn_r _ [65, 17, 3, 66, 67, 68, 7, 69, 18, 14, 70, 71, 72, 73, 74, 75, 76, 77, 78, 79, 80, 81, 82, 83, 84, 85, 86, 87, 88, 89, 90, 91, 92, 93, 94, 95, 96, 97, 98, 99, 100, 101, 102, 103, 104, 105] (by decide +kernel) (by decide +kernel)
set_option maxRecDepth 20000 in
theorem gX9_soonest_X9_soonestRound : GoodIn wsX9_soonest (wsV RX9 216 RX9 yX9_soonestRound wsX9_soonestRound) := goodIn_app (goodIn_of _ (by decide +kernel)) ggX9_soonest_X9_soonestRound
theorem dX9_soonest_0 : decode cX9_soonest 0 = .ok (.iload_n 1, 1) := by decide +kernel
theorem dX9_soonest_1 : decode cX9_soonest 1 = .ok (.iconst 0, 1) := by decide +kernel
theorem dX9_soonest_2 : decode cX9_soonest 2 = .ok (.bipush 6, 2) := by decide +kernel
theorem dX9_soonest_4 : decode cX9_soonest 4 = .ok (.invokestatic 100, 3) := by decide +kernel
theorem dX9_soonest_7 : decode cX9_soonest 7 = .ok (.ifCond .ne 5, 3) := by decide +kernel
theorem dX9_soonest_10 : decode cX9_soonest 10 = .ok (.iconst (-1), 1) := by decide +kernel
theorem dX9_soonest_11 : decode cX9_soonest 11 = .ok (.ireturn, 1) := by decide +kernel
theorem dX9_soonest_12 : decode cX9_soonest 12 = .ok (.aload_n 0, 1) := by decide +kernel
theorem dX9_soonest_13 : decode cX9_soonest 13 = .ok (.aload_n 0, 1) := by decide +kernel
theorem dX9_soonest_14 : decode cX9_soonest 14 = .ok (.getfield 22, 3) := by decide +kernel
theorem dX9_soonest_17 : decode cX9_soonest 17 = .ok (.iconst 0, 1) := by decide +kernel
theorem dX9_soonest_18 : decode cX9_soonest 18 = .ok (.iaload, 1) := by decide +kernel
theorem dX9_soonest_19 : decode cX9_soonest 19 = .ok (.invokevirtual 209, 3) := by decide +kernel
theorem dX9_soonest_22 : decode cX9_soonest 22 = .ok (.aload_n 0, 1) := by decide +kernel
theorem dX9_soonest_23 : decode cX9_soonest 23 = .ok (.invokevirtual 216, 3) := by decide +kernel
theorem dX9_soonest_26 : decode cX9_soonest 26 = .ok (.istore_n 2, 1) := by decide +kernel
theorem dX9_soonest_27 : decode cX9_soonest 27 = .ok (.iload_n 2, 1) := by decide +kernel
theorem dX9_soonest_28 : decode cX9_soonest 28 = .ok (.ifCond .lt 11, 3) := by decide +kernel
theorem dX9_soonest_31 : decode cX9_soonest 31 = .ok (.iload_n 1, 1) := by decide +kernel
theorem dX9_soonest_32 : decode cX9_soonest 32 = .ok (.aload_n 0, 1) := by decide +kernel
theorem dX9_soonest_33 : decode cX9_soonest 33 = .ok (.getfield 182, 3) := by decide +kernel
theorem dX9_soonest_36 : decode cX9_soonest 36 = .ok (.if_icmp .le 8, 3) := by decide +kernel
theorem dX9_soonest_39 : decode cX9_soonest 39 = .ok (.bipush (-4), 2) := by decide +kernel
theorem dX9_soonest_41 : decode cX9_soonest 41 = .ok (.goto 29, 3) := by decide +kernel
theorem dX9_soonest_44 : decode cX9_soonest 44 = .ok (.iload_n 1, 1) := by decide +kernel
theorem dX9_soonest_45 : decode cX9_soonest 45 = .ok (.ifCond .ne 12, 3) := by decide +kernel
theorem dX9_soonest_48 : decode cX9_soonest 48 = .ok (.aload_n 0, 1) := by decide +kernel
theorem dX9_soonest_49 : decode cX9_soonest 49 = .ok (.getfield 61, 3) := by decide +kernel
theorem dX9_soonest_52 : decode cX9_soonest 52 = .ok (.iload_n 2, 1) := by decide +kernel
theorem dX9_soonest_53 : decode cX9_soonest 53 = .ok (.iaload, 1) := by decide +kernel
theorem dX9_soonest_54 : decode cX9_soonest 54 = .ok (.goto 16, 3) := by decide +kernel
theorem dX9_soonest_57 : decode cX9_soonest 57 = .ok (.aload_n 0, 1) := by decide +kernel
theorem dX9_soonest_58 : decode cX9_soonest 58 = .ok (.getfield 55, 3) := by decide +kernel
theorem dX9_soonest_61 : decode cX9_soonest 61 = .ok (.bipush 6, 2) := by decide +kernel
theorem dX9_soonest_63 : decode cX9_soonest 63 = .ok (.iload_n 2, 1) := by decide +kernel
theorem dX9_soonest_64 : decode cX9_soonest 64 = .ok (.imul, 1) := by decide +kernel
theorem dX9_soonest_65 : decode cX9_soonest 65 = .ok (.iload_n 1, 1) := by decide +kernel
theorem dX9_soonest_66 : decode cX9_soonest 66 = .ok (.iadd, 1) := by decide +kernel
theorem dX9_soonest_67 : decode cX9_soonest 67 = .ok (.iconst 1, 1) := by decide +kernel
theorem dX9_soonest_68 : decode cX9_soonest 68 = .ok (.isub, 1) := by decide +kernel
theorem dX9_soonest_69 : decode cX9_soonest 69 = .ok (.iaload, 1) := by decide +kernel
theorem dX9_soonest_70 : decode cX9_soonest 70 = .ok (.ireturn, 1) := by decide +kernel
set_option maxRecDepth 20000 in
theorem ggX9_most_X9_in : GoodIn wsX9_most wsX9_in := goodIn_r _ [7] (by decide +kernel) (by decide +kernel)
set_option maxRecDepth 20000 in
theorem gX9_most_X9_in : GoodIn wsX9_most (va_wsS RX9 100 yX9_in wsX9_in) := goodIn_app (goodIn_of _ (by decide +kernel)) ggX9_most_X9_in
set_option maxRecDepth 20000 in
theorem ggX9_most_X9_findRounds : GoodIn wsX9_most wsX9_findRounds := goodIn_r _ [11, 12, 13, 14, 15, 16, 2, 17, 3, 18, 19, 20, 21, 22, 6, 23, 1, 24, 25, 26, 27, 28, 29, 30, 31, 32, 33, 34, 35, 36, 37, 38, 39, 40, 41, 42, 43, 44, 45, 46, 47, 48, 49, 50, 51, 52, 53, 54, 55, 56, 57, 58, 59, 60, 61, 65, 66, 67, 68, 69, 70, 71, 72, 73, 74, 75, 76, 77, 78, 79, 80, 81, 82, 83, 84, 85, 86, 87, 88, 89, 90, 91, 92, 93, 94, 95, 96, 97, 98, 99, 100] (by decide +kernel) (by decide +kernel)
set_option maxRecDepth 20000 in
theorem gX9_most_X9_findRounds : GoodIn wsX9_most (wsV RX9 209 RX9 yX9_findRounds wsX9_findRounds) := goodIn_app (goodIn_of _ (by decide +kernel)) ggX9_most_X9_findRounds
set_option maxRecDepth 20000 in
theorem ggX9_most_X9_bits : GoodIn wsX9_most wsX9_bits := goodIn_r _ [64] (by decide +kernel) (by decide +kernel)
set_option maxRecDepth 20000 in
theorem gX9_most_X9_bits : GoodIn wsX9_most (va_wsS RX9 179 yX9_bits wsX9_bits) := goodIn_app (goodIn_of _ (by decide +kernel)) ggX9_most_X9_bits
theorem dX9_most_0 : decode cX9_most 0 = .ok (.iload_n 1, 1) := by decide +kernel
theorem dX9_most_1 : decode cX9_most 1 = .ok (.iconst 0, 1) := by decide +kernel
theorem dX9_most_2 : decode cX9_most 2 = .ok (.iconst 1, 1) := by decide +kernel
theorem dX9_most_3 : decode cX9_most 3 = .ok (.invokestatic 100, 3) := by decide +kernel
theorem dX9_most_6 : decode cX9_most 6 = .ok (.ifCond .ne 5, 3) := by decide +kernel
theorem dX9_most_9 : decode cX9_most 9 = .ok (.iconst (-1), 1) := by decide +kernel
theorem dX9_most_10 : decode cX9_most 10 = .ok (.ireturn, 1) := by decide +kernel
theorem dX9_most_11 : decode cX9_most 11 = .ok (.aload_n 0, 1) := by decide +kernel
theorem dX9_most_12 : decode cX9_most 12 = .ok (.aload_n 0, 1) := by decide +kernel
theorem dX9_most_13 : decode cX9_most 13 = .ok (.getfield 22, 3) := by decide +kernel
theorem dX9_most_16 : decode cX9_most 16 = .ok (.iconst 0, 1) := by decide +kernel
theorem dX9_most_17 : decode cX9_most 17 = .ok (.iaload, 1) := by decide +kernel
theorem dX9_most_18 : decode cX9_most 18 = .ok (.invokevirtual 209, 3) := by decide +kernel
theorem dX9_most_21 : decode cX9_most 21 = .ok (.iconst (-1), 1) := by decide +kernel
theorem dX9_most_22 : decode cX9_most 22 = .ok (.istore_n 2, 1) := by decide +kernel
theorem dX9_most_23 : decode cX9_most 23 = .ok (.iconst 0, 1) := by decide +kernel
theorem dX9_most_24 : decode cX9_most 24 = .ok (.istore_n 3, 1) := by decide +kernel
theorem dX9_most_25 : decode cX9_most 25 = .ok (.iconst 0, 1) := by decide +kernel
theorem dX9_most_26 : decode cX9_most 26 = .ok (.istore 4, 2) := by decide +kernel
theorem dX9_most_28 : decode cX9_most 28 = .ok (.iload 4, 2) := by decide +kernel
theorem dX9_most_30 : decode cX9_most 30 = .ok (.aload_n 0, 1) := by decide +kernel
theorem dX9_most_31 : decode cX9_most 31 = .ok (.getfield 197, 3) := by decide +kernel
theorem dX9_most_34 : decode cX9_most 34 = .ok (.if_icmp .ge 80, 3) := by decide +kernel
theorem dX9_most_37 : decode cX9_most 37 = .ok (.aload_n 0, 1) := by decide +kernel
theorem dX9_most_38 : decode cX9_most 38 = .ok (.getfield 58, 3) := by decide +kernel
theorem dX9_most_41 : decode cX9_most 41 = .ok (.iload 4, 2) := by decide +kernel
theorem dX9_most_43 : decode cX9_most 43 = .ok (.iaload, 1) := by decide +kernel
theorem dX9_most_44 : decode cX9_most 44 = .ok (.invokestatic 179, 3) := by decide +kernel
theorem dX9_most_47 : decode cX9_most 47 = .ok (.istore 5, 2) := by decide +kernel
theorem dX9_most_49 : decode cX9_most 49 = .ok (.iload 5, 2) := by decide +kernel
theorem dX9_most_51 : decode cX9_most 51 = .ok (.iload_n 2, 1) := by decide +kernel
theorem dX9_most_52 : decode cX9_most 52 = .ok (.if_icmp .gt 20, 3) := by decide +kernel
theorem dX9_most_55 : decode cX9_most 55 = .ok (.iload 5, 2) := by decide +kernel
theorem dX9_most_57 : decode cX9_most 57 = .ok (.iload_n 2, 1) := by decide +kernel
theorem dX9_most_58 : decode cX9_most 58 = .ok (.if_icmp .ne 18, 3) := by decide +kernel
theorem dX9_most_61 : decode cX9_most 61 = .ok (.aload_n 0, 1) := by decide +kernel
theorem dX9_most_62 : decode cX9_most 62 = .ok (.getfield 58, 3) := by decide +kernel
theorem dX9_most_65 : decode cX9_most 65 = .ok (.iload 4, 2) := by decide +kernel
theorem dX9_most_67 : decode cX9_most 67 = .ok (.iaload, 1) := by decide +kernel
theorem dX9_most_68 : decode cX9_most 68 = .ok (.iload_n 3, 1) := by decide +kernel
theorem dX9_most_69 : decode cX9_most 69 = .ok (.if_icmp .ge 7, 3) := by decide +kernel
theorem dX9_most_72 : decode cX9_most 72 = .ok (.iconst 1, 1) := by decide +kernel
theorem dX9_most_73 : decode cX9_most 73 = .ok (.goto 4, 3) := by decide +kernel
theorem dX9_most_76 : decode cX9_most 76 = .ok (.iconst 0, 1) := by decide +kernel
theorem dX9_most_77 : decode cX9_most 77 = .ok (.istore 6, 2) := by decide +kernel
theorem dX9_most_79 : decode cX9_most 79 = .ok (.iload 6, 2) := by decide +kernel
theorem dX9_most_81 : decode cX9_most 81 = .ok (.ifCond .eq 8, 3) := by decide +kernel
theorem dX9_most_84 : decode cX9_most 84 = .ok (.iload 5, 2) := by decide +kernel
theorem dX9_most_86 : decode cX9_most 86 = .ok (.goto 4, 3) := by decide +kernel
theorem dX9_most_89 : decode cX9_most 89 = .ok (.iload_n 2, 1) := by decide +kernel
theorem dX9_most_90 : decode cX9_most 90 = .ok (.istore_n 2, 1) := by decide +kernel
theorem dX9_most_91 : decode cX9_most 91 = .ok (.iload 6, 2) := by decide +kernel
theorem dX9_most_93 : decode cX9_most 93 = .ok (.ifCond .eq 13, 3) := by decide +kernel
theorem dX9_most_96 : decode cX9_most 96 = .ok (.aload_n 0, 1) := by decide +kernel
theorem dX9_most_97 : decode cX9_most 97 = .ok (.getfield 58, 3) := by decide +kernel
theorem dX9_most_100 : decode cX9_most 100 = .ok (.iload 4, 2) := by decide +kernel
theorem dX9_most_102 : decode cX9_most 102 = .ok (.iaload, 1) := by decide +kernel
theorem dX9_most_103 : decode cX9_most 103 = .ok (.goto 4, 3) := by decide +kernel
theorem dX9_most_106 : decode cX9_most 106 = .ok (.iload_n 3, 1) := by decide +kernel
theorem dX9_most_107 : decode cX9_most 107 = .ok (.istore_n 3, 1) := by decide +kernel
theorem dX9_most_108 : decode cX9_most 108 = .ok (.iinc 4 1, 3) := by decide +kernel
theorem dX9_most_111 : decode cX9_most 111 = .ok (.goto (-83), 3) := by decide +kernel
theorem dX9_most_114 : decode cX9_most 114 = .ok (.iload_n 1, 1) := by decide +kernel
theorem dX9_most_115 : decode cX9_most 115 = .ok (.ifCond .ne 7, 3) := by decide +kernel
theorem dX9_most_118 : decode cX9_most 118 = .ok (.iload_n 2, 1) := by decide +kernel
theorem dX9_most_119 : decode cX9_most 119 = .ok (.goto 4, 3) := by decide +kernel
theorem dX9_most_122 : decode cX9_most 122 = .ok (.iload_n 3, 1) := by decide +kernel
theorem dX9_most_123 : decode cX9_most 123 = .ok (.ireturn, 1) := by decide +kernel
theorem dX9_isKeptSet_0 : decode cX9_isKeptSet 0 = .ok (.iconst 0, 1) := by decide +kernel
theorem dX9_isKeptSet_1 : decode cX9_isKeptSet 1 = .ok (.istore_n 2, 1) := by decide +kernel
theorem dX9_isKeptSet_2 : decode cX9_isKeptSet 2 = .ok (.iload_n 2, 1) := by decide +kernel
theorem dX9_isKeptSet_3 : decode cX9_isKeptSet 3 = .ok (.aload_n 0, 1) := by decide +kernel
theorem dX9_isKeptSet_4 : decode cX9_isKeptSet 4 = .ok (.getfield 197, 3) := by decide +kernel
theorem dX9_isKeptSet_7 : decode cX9_isKeptSet 7 = .ok (.if_icmp .ge 23, 3) := by decide +kernel
theorem dX9_isKeptSet_10 : decode cX9_isKeptSet 10 = .ok (.aload_n 0, 1) := by decide +kernel
theorem dX9_isKeptSet_11 : decode cX9_isKeptSet 11 = .ok (.getfield 58, 3) := by decide +kernel
theorem dX9_isKeptSet_14 : decode cX9_isKeptSet 14 = .ok (.iload_n 2, 1) := by decide +kernel
theorem dX9_isKeptSet_15 : decode cX9_isKeptSet 15 = .ok (.iaload, 1) := by decide +kernel
theorem dX9_isKeptSet_16 : decode cX9_isKeptSet 16 = .ok (.iload_n 1, 1) := by decide +kernel
theorem dX9_isKeptSet_17 : decode cX9_isKeptSet 17 = .ok (.iand, 1) := by decide +kernel
theorem dX9_isKeptSet_18 : decode cX9_isKeptSet 18 = .ok (.iload_n 1, 1) := by decide +kernel
theorem dX9_isKeptSet_19 : decode cX9_isKeptSet 19 = .ok (.if_icmp .ne 5, 3) := by decide +kernel
theorem dX9_isKeptSet_22 : decode cX9_isKeptSet 22 = .ok (.iconst 1, 1) := by decide +kernel
theorem dX9_isKeptSet_23 : decode cX9_isKeptSet 23 = .ok (.ireturn, 1) := by decide +kernel
theorem dX9_isKeptSet_24 : decode cX9_isKeptSet 24 = .ok (.iinc 2 1, 3) := by decide +kernel
theorem dX9_isKeptSet_27 : decode cX9_isKeptSet 27 = .ok (.goto (-25), 3) := by decide +kernel
theorem dX9_isKeptSet_30 : decode cX9_isKeptSet 30 = .ok (.iconst 0, 1) := by decide +kernel
theorem dX9_isKeptSet_31 : decode cX9_isKeptSet 31 = .ok (.ireturn, 1) := by decide +kernel
set_option maxRecDepth 20000 in
theorem ggX9_core_X9_findRounds : GoodIn wsX9_core wsX9_findRounds := goodIn_r _ [8, 9, 3, 10, 11, 12, 13, 14, 15, 2, 16, 17, 18, 19, 7, 20, 1, 21, 22, 23, 24, 25, 26, 27, 28, 29, 30, 31, 32, 33, 34, 35, 36, 37, 38, 39, 40, 41, 42, 43, 44, 45, 46, 47, 48, 49, 50, 51, 52, 53, 54, 55, 56, 57, 58, 66, 67, 68, 69, 70, 71, 72, 73, 74, 75, 76, 77, 78, 79, 80, 81, 82, 83, 84, 85, 86, 87, 88, 89, 90, 91, 92, 93, 94, 95, 96, 97, 98, 99, 100, 101] (by decide +kernel) (by decide +kernel)
set_option maxRecDepth 20000 in
theorem gX9_core_X9_findRounds : GoodIn wsX9_core (wsV RX9 209 RX9 yX9_findRounds wsX9_findRounds) := goodIn_app (goodIn_of _ (by decide +kernel)) ggX9_core_X9_findRounds
set_option maxRecDepth 20000 in
theorem ggX9_core_X9_bits : GoodIn wsX9_core wsX9_bits := goodIn_r _ [61] (by decide +kernel) (by decide +kernel)
set_option maxRecDepth 20000 in
theorem gX9_core_X9_bits : GoodIn wsX9_core (va_wsS RX9 179 yX9_bits wsX9_bits) := goodIn_app (goodIn_of _ (by decide +kernel)) ggX9_core_X9_bits
set_option maxRecDepth 20000 in
theorem ggX9_core_X9_isKeptSet : GoodIn wsX9_core wsX9_isKeptSet := goodIn_r _ [65, 13, 15, 66, 67, 68, 69, 70, 71, 72, 73, 74, 75, 76, 77, 78, 79, 80, 81, 82, 83, 84, 85, 86, 87, 88, 89, 90, 91, 92, 93, 94, 95, 96, 97, 98, 99, 100, 101] (by decide +kernel) (by decide +kernel)
set_option maxRecDepth 20000 in
theorem gX9_core_X9_isKeptSet : GoodIn wsX9_core (wsV RX9 219 RX9 yX9_isKeptSet wsX9_isKeptSet) := goodIn_app (goodIn_of _ (by decide +kernel)) ggX9_core_X9_isKeptSet
theorem dX9_core_0 : decode cX9_core 0 = .ok (.aload_n 0, 1) := by decide +kernel
theorem dX9_core_1 : decode cX9_core 1 = .ok (.aload_n 0, 1) := by decide +kernel
theorem dX9_core_2 : decode cX9_core 2 = .ok (.getfield 22, 3) := by decide +kernel
theorem dX9_core_5 : decode cX9_core 5 = .ok (.iconst 0, 1) := by decide +kernel
theorem dX9_core_6 : decode cX9_core 6 = .ok (.iaload, 1) := by decide +kernel
theorem dX9_core_7 : decode cX9_core 7 = .ok (.invokevirtual 209, 3) := by decide +kernel
theorem dX9_core_10 : decode cX9_core 10 = .ok (.bipush (-4), 2) := by decide +kernel
theorem dX9_core_12 : decode cX9_core 12 = .ok (.istore_n 1, 1) := by decide +kernel
theorem dX9_core_13 : decode cX9_core 13 = .ok (.iconst 0, 1) := by decide +kernel
theorem dX9_core_14 : decode cX9_core 14 = .ok (.istore_n 2, 1) := by decide +kernel
theorem dX9_core_15 : decode cX9_core 15 = .ok (.iload_n 2, 1) := by decide +kernel
theorem dX9_core_16 : decode cX9_core 16 = .ok (.iconst 1, 1) := by decide +kernel
theorem dX9_core_17 : decode cX9_core 17 = .ok (.aload_n 0, 1) := by decide +kernel
theorem dX9_core_18 : decode cX9_core 18 = .ok (.getfield 145, 3) := by decide +kernel
theorem dX9_core_21 : decode cX9_core 21 = .ok (.ishl, 1) := by decide +kernel
theorem dX9_core_22 : decode cX9_core 22 = .ok (.if_icmp .ge 59, 3) := by decide +kernel
theorem dX9_core_25 : decode cX9_core 25 = .ok (.iload_n 2, 1) := by decide +kernel
theorem dX9_core_26 : decode cX9_core 26 = .ok (.aload_n 0, 1) := by decide +kernel
theorem dX9_core_27 : decode cX9_core 27 = .ok (.getfield 188, 3) := by decide +kernel
theorem dX9_core_30 : decode cX9_core 30 = .ok (.iconst (-1), 1) := by decide +kernel
theorem dX9_core_31 : decode cX9_core 31 = .ok (.ixor, 1) := by decide +kernel
theorem dX9_core_32 : decode cX9_core 32 = .ok (.iand, 1) := by decide +kernel
theorem dX9_core_33 : decode cX9_core 33 = .ok (.ifCond .ne 22, 3) := by decide +kernel
theorem dX9_core_36 : decode cX9_core 36 = .ok (.iload_n 1, 1) := by decide +kernel
theorem dX9_core_37 : decode cX9_core 37 = .ok (.ifCond .lt 14, 3) := by decide +kernel
theorem dX9_core_40 : decode cX9_core 40 = .ok (.iload_n 2, 1) := by decide +kernel
theorem dX9_core_41 : decode cX9_core 41 = .ok (.invokestatic 179, 3) := by decide +kernel
theorem dX9_core_44 : decode cX9_core 44 = .ok (.iload_n 1, 1) := by decide +kernel
theorem dX9_core_45 : decode cX9_core 45 = .ok (.invokestatic 179, 3) := by decide +kernel
theorem dX9_core_48 : decode cX9_core 48 = .ok (.if_icmp .ge 7, 3) := by decide +kernel
theorem dX9_core_51 : decode cX9_core 51 = .ok (.iconst 1, 1) := by decide +kernel
theorem dX9_core_52 : decode cX9_core 52 = .ok (.goto 4, 3) := by decide +kernel
theorem dX9_core_55 : decode cX9_core 55 = .ok (.iconst 0, 1) := by decide +kernel
theorem dX9_core_56 : decode cX9_core 56 = .ok (.istore_n 3, 1) := by decide +kernel
theorem dX9_core_57 : decode cX9_core 57 = .ok (.iload_n 3, 1) := by decide +kernel
theorem dX9_core_58 : decode cX9_core 58 = .ok (.ifCond .eq 17, 3) := by decide +kernel
theorem dX9_core_61 : decode cX9_core 61 = .ok (.aload_n 0, 1) := by decide +kernel
theorem dX9_core_62 : decode cX9_core 62 = .ok (.iload_n 2, 1) := by decide +kernel
theorem dX9_core_63 : decode cX9_core 63 = .ok (.invokevirtual 219, 3) := by decide +kernel
theorem dX9_core_66 : decode cX9_core 66 = .ok (.ifCond .eq 7, 3) := by decide +kernel
theorem dX9_core_69 : decode cX9_core 69 = .ok (.iload_n 1, 1) := by decide +kernel
theorem dX9_core_70 : decode cX9_core 70 = .ok (.goto 4, 3) := by decide +kernel
theorem dX9_core_73 : decode cX9_core 73 = .ok (.iload_n 2, 1) := by decide +kernel
theorem dX9_core_74 : decode cX9_core 74 = .ok (.istore_n 1, 1) := by decide +kernel
theorem dX9_core_75 : decode cX9_core 75 = .ok (.iinc 2 1, 3) := by decide +kernel
theorem dX9_core_78 : decode cX9_core 78 = .ok (.goto (-63), 3) := by decide +kernel
theorem dX9_core_81 : decode cX9_core 81 = .ok (.iload_n 1, 1) := by decide +kernel
theorem dX9_core_82 : decode cX9_core 82 = .ok (.ireturn, 1) := by decide +kernel
set_option maxRecDepth 20000 in
theorem ggX9_place_X9_isGuest : GoodIn wsX9_place wsX9_isGuest := goodIn_r _ [7, 8, 9, 10, 6, 11, 78, 79, 80, 81, 82, 83, 84, 85, 86, 87, 88, 89, 90, 91, 92, 93, 94, 95, 96, 97, 98, 99, 100, 101, 102, 103, 104, 105, 106, 107, 108, 109, 110, 111, 112, 113] (by decide +kernel) (by decide +kernel)
set_option maxRecDepth 20000 in
theorem gX9_place_X9_isGuest : GoodIn wsX9_place (wsV RX9 160 RX9 yX9_isGuest wsX9_isGuest) := goodIn_app (goodIn_of _ (by decide +kernel)) ggX9_place_X9_isGuest
set_option maxRecDepth 20000 in
theorem ggX9_place_X9_in : GoodIn wsX9_place wsX9_in := goodIn_r _ [11] (by decide +kernel) (by decide +kernel)
set_option maxRecDepth 20000 in
theorem gX9_place_X9_in : GoodIn wsX9_place (va_wsS RX9 100 yX9_in wsX9_in) := goodIn_app (goodIn_of _ (by decide +kernel)) ggX9_place_X9_in
set_option maxRecDepth 20000 in
theorem ggX9_place_X9_isHere : GoodIn wsX9_place wsX9_isHere := goodIn_r _ [15, 1, 16, 17, 6, 18, 78, 79, 80, 81, 82, 83, 84, 85, 86, 87, 88, 89, 90, 91, 92, 93, 94, 95, 96, 97, 98, 99, 100, 101, 102, 103, 104, 105, 106, 107, 108, 109, 110, 111, 112, 113] (by decide +kernel) (by decide +kernel)
set_option maxRecDepth 20000 in
theorem gX9_place_X9_isHere : GoodIn wsX9_place (wsV RX9 222 RX9 yX9_isHere wsX9_isHere) := goodIn_app (goodIn_of _ (by decide +kernel)) ggX9_place_X9_isHere
set_option maxRecDepth 20000 in
theorem ggX9_place_X9_findRounds : GoodIn wsX9_place wsX9_findRounds := goodIn_r _ [22, 23, 24, 25, 8, 26, 2, 27, 28, 29, 30, 31, 32, 33, 6, 34, 1, 35, 36, 16, 17, 18, 37, 38, 39, 40, 41, 42, 43, 44, 45, 46, 47, 48, 49, 50, 51, 52, 53, 54, 55, 56, 57, 58, 59, 60, 61, 62, 63, 64, 65, 66, 67, 68, 69, 78, 79, 80, 81, 82, 83, 84, 85, 86, 87, 88, 89, 90, 91, 92, 93, 94, 95, 96, 97, 98, 99, 100, 101, 102, 103, 104, 105, 106, 107, 108, 109, 110, 111, 112, 113] (by decide +kernel) (by decide +kernel)
set_option maxRecDepth 20000 in
theorem gX9_place_X9_findRounds : GoodIn wsX9_place (wsV RX9 209 RX9 yX9_findRounds wsX9_findRounds) := goodIn_app (goodIn_of _ (by decide +kernel)) ggX9_place_X9_findRounds
set_option maxRecDepth 20000 in
theorem ggX9_place_X9_isGood : GoodIn wsX9_place wsX9_isGood := goodIn_r _ [73, 28, 24, 78, 79, 80, 81, 82, 83, 84, 85, 86, 87, 88, 89, 90, 91, 92, 93, 94, 95, 96, 97, 98, 99, 100, 101, 102, 103, 104, 105, 106, 107, 108, 109, 110, 111, 112, 113] (by decide +kernel) (by decide +kernel)
set_option maxRecDepth 20000 in
theorem gX9_place_X9_isGood : GoodIn wsX9_place (wsV RX9 213 RX9 yX9_isGood wsX9_isGood) := goodIn_app (goodIn_of _ (by decide +kernel)) ggX9_place_X9_isGood
set_option maxRecDepth 20000 in
theorem ggX9_place_X9_placeIn : GoodIn wsX9_place wsX9_placeIn := goodIn_r _ [77, 30, 78, 79, 80, 81, 82, 83, 84, 85, 86, 87, 88, 89, 90, 91, 92, 93, 94, 95, 96, 97, 98, 99, 100, 101, 102, 103, 104, 105, 106, 107, 108, 109, 110, 111, 112, 113] (by decide +kernel) (by decide +kernel)
set_option maxRecDepth 20000 in
theorem gX9_place_X9_placeIn : GoodIn wsX9_place (wsV RX9 225 RX9 yX9_placeIn wsX9_placeIn) := goodIn_app (goodIn_of _ (by decide +kernel)) ggX9_place_X9_placeIn
theorem dX9_place_0 : decode cX9_place 0 = .ok (.aload_n 0, 1) := by decide +kernel
theorem dX9_place_1 : decode cX9_place 1 = .ok (.iload_n 1, 1) := by decide +kernel
theorem dX9_place_2 : decode cX9_place 2 = .ok (.invokevirtual 160, 3) := by decide +kernel
theorem dX9_place_5 : decode cX9_place 5 = .ok (.ifCond .eq 12, 3) := by decide +kernel
theorem dX9_place_8 : decode cX9_place 8 = .ok (.iload_n 2, 1) := by decide +kernel
theorem dX9_place_9 : decode cX9_place 9 = .ok (.iconst 0, 1) := by decide +kernel
theorem dX9_place_10 : decode cX9_place 10 = .ok (.iconst 1, 1) := by decide +kernel
theorem dX9_place_11 : decode cX9_place 11 = .ok (.invokestatic 100, 3) := by decide +kernel
theorem dX9_place_14 : decode cX9_place 14 = .ok (.ifCond .ne 5, 3) := by decide +kernel
theorem dX9_place_17 : decode cX9_place 17 = .ok (.iconst (-1), 1) := by decide +kernel
theorem dX9_place_18 : decode cX9_place 18 = .ok (.ireturn, 1) := by decide +kernel
theorem dX9_place_19 : decode cX9_place 19 = .ok (.aload_n 0, 1) := by decide +kernel
theorem dX9_place_20 : decode cX9_place 20 = .ok (.iload_n 1, 1) := by decide +kernel
theorem dX9_place_21 : decode cX9_place 21 = .ok (.invokevirtual 222, 3) := by decide +kernel
theorem dX9_place_24 : decode cX9_place 24 = .ok (.ifCond .ne 6, 3) := by decide +kernel
theorem dX9_place_27 : decode cX9_place 27 = .ok (.bipush (-4), 2) := by decide +kernel
theorem dX9_place_29 : decode cX9_place 29 = .ok (.ireturn, 1) := by decide +kernel
theorem dX9_place_30 : decode cX9_place 30 = .ok (.aload_n 0, 1) := by decide +kernel
theorem dX9_place_31 : decode cX9_place 31 = .ok (.aload_n 0, 1) := by decide +kernel
theorem dX9_place_32 : decode cX9_place 32 = .ok (.getfield 22, 3) := by decide +kernel
theorem dX9_place_35 : decode cX9_place 35 = .ok (.iconst 0, 1) := by decide +kernel
theorem dX9_place_36 : decode cX9_place 36 = .ok (.iaload, 1) := by decide +kernel
theorem dX9_place_37 : decode cX9_place 37 = .ok (.invokevirtual 209, 3) := by decide +kernel
theorem dX9_place_40 : decode cX9_place 40 = .ok (.bipush (-4), 2) := by decide +kernel
theorem dX9_place_42 : decode cX9_place 42 = .ok (.istore_n 3, 1) := by decide +kernel
theorem dX9_place_43 : decode cX9_place 43 = .ok (.bipush (-4), 2) := by decide +kernel
theorem dX9_place_45 : decode cX9_place 45 = .ok (.istore 4, 2) := by decide +kernel
theorem dX9_place_47 : decode cX9_place 47 = .ok (.iconst 0, 1) := by decide +kernel
theorem dX9_place_48 : decode cX9_place 48 = .ok (.istore 5, 2) := by decide +kernel
theorem dX9_place_50 : decode cX9_place 50 = .ok (.iload 5, 2) := by decide +kernel
theorem dX9_place_52 : decode cX9_place 52 = .ok (.aload_n 0, 1) := by decide +kernel
theorem dX9_place_53 : decode cX9_place 53 = .ok (.getfield 197, 3) := by decide +kernel
theorem dX9_place_56 : decode cX9_place 56 = .ok (.if_icmp .ge 62, 3) := by decide +kernel
theorem dX9_place_59 : decode cX9_place 59 = .ok (.aload_n 0, 1) := by decide +kernel
theorem dX9_place_60 : decode cX9_place 60 = .ok (.iload 5, 2) := by decide +kernel
theorem dX9_place_62 : decode cX9_place 62 = .ok (.invokevirtual 213, 3) := by decide +kernel
theorem dX9_place_65 : decode cX9_place 65 = .ok (.ifCond .eq 47, 3) := by decide +kernel
theorem dX9_place_68 : decode cX9_place 68 = .ok (.aload_n 0, 1) := by decide +kernel
theorem dX9_place_69 : decode cX9_place 69 = .ok (.iload 5, 2) := by decide +kernel
theorem dX9_place_71 : decode cX9_place 71 = .ok (.iload_n 1, 1) := by decide +kernel
theorem dX9_place_72 : decode cX9_place 72 = .ok (.invokevirtual 225, 3) := by decide +kernel
theorem dX9_place_75 : decode cX9_place 75 = .ok (.iconst 1, 1) := by decide +kernel
theorem dX9_place_76 : decode cX9_place 76 = .ok (.iadd, 1) := by decide +kernel
theorem dX9_place_77 : decode cX9_place 77 = .ok (.istore 6, 2) := by decide +kernel
theorem dX9_place_79 : decode cX9_place 79 = .ok (.iload_n 3, 1) := by decide +kernel
theorem dX9_place_80 : decode cX9_place 80 = .ok (.ifCond .lt 9, 3) := by decide +kernel
theorem dX9_place_83 : decode cX9_place 83 = .ok (.iload 6, 2) := by decide +kernel
theorem dX9_place_85 : decode cX9_place 85 = .ok (.iload_n 3, 1) := by decide +kernel
theorem dX9_place_86 : decode cX9_place 86 = .ok (.if_icmp .ge 8, 3) := by decide +kernel
theorem dX9_place_89 : decode cX9_place 89 = .ok (.iload 6, 2) := by decide +kernel
theorem dX9_place_91 : decode cX9_place 91 = .ok (.goto 4, 3) := by decide +kernel
theorem dX9_place_94 : decode cX9_place 94 = .ok (.iload_n 3, 1) := by decide +kernel
theorem dX9_place_95 : decode cX9_place 95 = .ok (.istore_n 3, 1) := by decide +kernel
theorem dX9_place_96 : decode cX9_place 96 = .ok (.iload 6, 2) := by decide +kernel
theorem dX9_place_98 : decode cX9_place 98 = .ok (.iload 4, 2) := by decide +kernel
theorem dX9_place_100 : decode cX9_place 100 = .ok (.if_icmp .le 8, 3) := by decide +kernel
theorem dX9_place_103 : decode cX9_place 103 = .ok (.iload 6, 2) := by decide +kernel
theorem dX9_place_105 : decode cX9_place 105 = .ok (.goto 5, 3) := by decide +kernel
theorem dX9_place_108 : decode cX9_place 108 = .ok (.iload 4, 2) := by decide +kernel
theorem dX9_place_110 : decode cX9_place 110 = .ok (.istore 4, 2) := by decide +kernel
theorem dX9_place_112 : decode cX9_place 112 = .ok (.iinc 5 1, 3) := by decide +kernel
theorem dX9_place_115 : decode cX9_place 115 = .ok (.goto (-65), 3) := by decide +kernel
theorem dX9_place_118 : decode cX9_place 118 = .ok (.iload_n 2, 1) := by decide +kernel
theorem dX9_place_119 : decode cX9_place 119 = .ok (.ifCond .ne 7, 3) := by decide +kernel
theorem dX9_place_122 : decode cX9_place 122 = .ok (.iload_n 3, 1) := by decide +kernel
theorem dX9_place_123 : decode cX9_place 123 = .ok (.goto 5, 3) := by decide +kernel
theorem dX9_place_126 : decode cX9_place 126 = .ok (.iload 4, 2) := by decide +kernel
theorem dX9_place_128 : decode cX9_place 128 = .ok (.ireturn, 1) := by decide +kernel
set_option maxRecDepth 20000 in
theorem ggX9_ahead_X9_isGuest : GoodIn wsX9_ahead wsX9_isGuest := goodIn_r _ [7, 8, 9, 10, 6, 11, 78, 79, 80, 81, 82, 83, 84, 85, 86, 87, 88, 89, 90, 91, 92, 93, 94, 95, 96, 97, 98, 99, 100, 101, 102, 103, 104, 105, 106, 107, 108, 109, 110, 111, 112, 113] (by decide +kernel) (by decide +kernel)
set_option maxRecDepth 20000 in
theorem gX9_ahead_X9_isGuest : GoodIn wsX9_ahead (wsV RX9 160 RX9 yX9_isGuest wsX9_isGuest) := goodIn_app (goodIn_of _ (by decide +kernel)) ggX9_ahead_X9_isGuest
set_option maxRecDepth 20000 in
theorem ggX9_ahead_X9_isHere : GoodIn wsX9_ahead wsX9_isHere := goodIn_r _ [15, 1, 16, 17, 6, 18, 78, 79, 80, 81, 82, 83, 84, 85, 86, 87, 88, 89, 90, 91, 92, 93, 94, 95, 96, 97, 98, 99, 100, 101, 102, 103, 104, 105, 106, 107, 108, 109, 110, 111, 112, 113] (by decide +kernel) (by decide +kernel)
set_option maxRecDepth 20000 in
theorem gX9_ahead_X9_isHere : GoodIn wsX9_ahead (wsV RX9 222 RX9 yX9_isHere wsX9_isHere) := goodIn_app (goodIn_of _ (by decide +kernel)) ggX9_ahead_X9_isHere
set_option maxRecDepth 20000 in
theorem ggX9_ahead_X9_findRounds : GoodIn wsX9_ahead wsX9_findRounds := goodIn_r _ [22, 23, 24, 25, 8, 26, 2, 27, 28, 29, 30, 31, 32, 33, 6, 34, 1, 35, 36, 16, 17, 18, 37, 38, 39, 40, 41, 42, 43, 44, 45, 46, 47, 48, 49, 50, 51, 52, 53, 54, 55, 56, 57, 58, 59, 60, 61, 62, 63, 64, 65, 66, 67, 68, 69, 78, 79, 80, 81, 82, 83, 84, 85, 86, 87, 88, 89, 90, 91, 92, 93, 94, 95, 96, 97, 98, 99, 100, 101, 102, 103, 104, 105, 106, 107, 108, 109, 110, 111, 112, 113] (by decide +kernel) (by decide +kernel)
set_option maxRecDepth 20000 in
theorem gX9_ahead_X9_findRounds : GoodIn wsX9_ahead (wsV RX9 209 RX9 yX9_findRounds wsX9_findRounds) := goodIn_app (goodIn_of _ (by decide +kernel)) ggX9_ahead_X9_findRounds
set_option maxRecDepth 20000 in
theorem ggX9_ahead_X9_isGood : GoodIn wsX9_ahead wsX9_isGood := goodIn_r _ [73, 28, 24, 78, 79, 80, 81, 82, 83, 84, 85, 86, 87, 88, 89, 90, 91, 92, 93, 94, 95, 96, 97, 98, 99, 100, 101, 102, 103, 104, 105, 106, 107, 108, 109, 110, 111, 112, 113] (by decide +kernel) (by decide +kernel)
set_option maxRecDepth 20000 in
theorem gX9_ahead_X9_isGood : GoodIn wsX9_ahead (wsV RX9 213 RX9 yX9_isGood wsX9_isGood) := goodIn_app (goodIn_of _ (by decide +kernel)) ggX9_ahead_X9_isGood
set_option maxRecDepth 20000 in
theorem ggX9_ahead_X9_placeIn : GoodIn wsX9_ahead wsX9_placeIn := goodIn_r _ [77, 30, 78, 79, 80, 81, 82, 83, 84, 85, 86, 87, 88, 89, 90, 91, 92, 93, 94, 95, 96, 97, 98, 99, 100, 101, 102, 103, 104, 105, 106, 107, 108, 109, 110, 111, 112, 113] (by decide +kernel) (by decide +kernel)
set_option maxRecDepth 20000 in
theorem gX9_ahead_X9_placeIn : GoodIn wsX9_ahead (wsV RX9 225 RX9 yX9_placeIn wsX9_placeIn) := goodIn_app (goodIn_of _ (by decide +kernel)) ggX9_ahead_X9_placeIn
theorem dX9_ahead_0 : decode cX9_ahead 0 = .ok (.aload_n 0, 1) := by decide +kernel
theorem dX9_ahead_1 : decode cX9_ahead 1 = .ok (.iload_n 1, 1) := by decide +kernel
theorem dX9_ahead_2 : decode cX9_ahead 2 = .ok (.invokevirtual 160, 3) := by decide +kernel
theorem dX9_ahead_5 : decode cX9_ahead 5 = .ok (.ifCond .eq 16, 3) := by decide +kernel
theorem dX9_ahead_8 : decode cX9_ahead 8 = .ok (.aload_n 0, 1) := by decide +kernel
theorem dX9_ahead_9 : decode cX9_ahead 9 = .ok (.iload_n 2, 1) := by decide +kernel
theorem dX9_ahead_10 : decode cX9_ahead 10 = .ok (.invokevirtual 160, 3) := by decide +kernel
theorem dX9_ahead_13 : decode cX9_ahead 13 = .ok (.ifCond .eq 8, 3) := by decide +kernel
theorem dX9_ahead_16 : decode cX9_ahead 16 = .ok (.iload_n 1, 1) := by decide +kernel
theorem dX9_ahead_17 : decode cX9_ahead 17 = .ok (.iload_n 2, 1) := by decide +kernel
theorem dX9_ahead_18 : decode cX9_ahead 18 = .ok (.if_icmp .ne 5, 3) := by decide +kernel
theorem dX9_ahead_21 : decode cX9_ahead 21 = .ok (.iconst (-1), 1) := by decide +kernel
theorem dX9_ahead_22 : decode cX9_ahead 22 = .ok (.ireturn, 1) := by decide +kernel
theorem dX9_ahead_23 : decode cX9_ahead 23 = .ok (.aload_n 0, 1) := by decide +kernel
theorem dX9_ahead_24 : decode cX9_ahead 24 = .ok (.iload_n 1, 1) := by decide +kernel
theorem dX9_ahead_25 : decode cX9_ahead 25 = .ok (.invokevirtual 222, 3) := by decide +kernel
theorem dX9_ahead_28 : decode cX9_ahead 28 = .ok (.ifCond .eq 11, 3) := by decide +kernel
theorem dX9_ahead_31 : decode cX9_ahead 31 = .ok (.aload_n 0, 1) := by decide +kernel
theorem dX9_ahead_32 : decode cX9_ahead 32 = .ok (.iload_n 2, 1) := by decide +kernel
theorem dX9_ahead_33 : decode cX9_ahead 33 = .ok (.invokevirtual 222, 3) := by decide +kernel
theorem dX9_ahead_36 : decode cX9_ahead 36 = .ok (.ifCond .ne 6, 3) := by decide +kernel
theorem dX9_ahead_39 : decode cX9_ahead 39 = .ok (.bipush (-4), 2) := by decide +kernel
theorem dX9_ahead_41 : decode cX9_ahead 41 = .ok (.ireturn, 1) := by decide +kernel
theorem dX9_ahead_42 : decode cX9_ahead 42 = .ok (.aload_n 0, 1) := by decide +kernel
theorem dX9_ahead_43 : decode cX9_ahead 43 = .ok (.aload_n 0, 1) := by decide +kernel
theorem dX9_ahead_44 : decode cX9_ahead 44 = .ok (.getfield 22, 3) := by decide +kernel
theorem dX9_ahead_47 : decode cX9_ahead 47 = .ok (.iconst 0, 1) := by decide +kernel
theorem dX9_ahead_48 : decode cX9_ahead 48 = .ok (.iaload, 1) := by decide +kernel
theorem dX9_ahead_49 : decode cX9_ahead 49 = .ok (.invokevirtual 209, 3) := by decide +kernel
theorem dX9_ahead_52 : decode cX9_ahead 52 = .ok (.bipush (-4), 2) := by decide +kernel
theorem dX9_ahead_54 : decode cX9_ahead 54 = .ok (.istore_n 3, 1) := by decide +kernel
theorem dX9_ahead_55 : decode cX9_ahead 55 = .ok (.iconst 0, 1) := by decide +kernel
theorem dX9_ahead_56 : decode cX9_ahead 56 = .ok (.istore 4, 2) := by decide +kernel
theorem dX9_ahead_58 : decode cX9_ahead 58 = .ok (.iload 4, 2) := by decide +kernel
theorem dX9_ahead_60 : decode cX9_ahead 60 = .ok (.aload_n 0, 1) := by decide +kernel
theorem dX9_ahead_61 : decode cX9_ahead 61 = .ok (.getfield 197, 3) := by decide +kernel
theorem dX9_ahead_64 : decode cX9_ahead 64 = .ok (.if_icmp .ge 59, 3) := by decide +kernel
theorem dX9_ahead_67 : decode cX9_ahead 67 = .ok (.aload_n 0, 1) := by decide +kernel
theorem dX9_ahead_68 : decode cX9_ahead 68 = .ok (.iload 4, 2) := by decide +kernel
theorem dX9_ahead_70 : decode cX9_ahead 70 = .ok (.invokevirtual 213, 3) := by decide +kernel
theorem dX9_ahead_73 : decode cX9_ahead 73 = .ok (.ifCond .eq 44, 3) := by decide +kernel
theorem dX9_ahead_76 : decode cX9_ahead 76 = .ok (.aload_n 0, 1) := by decide +kernel
theorem dX9_ahead_77 : decode cX9_ahead 77 = .ok (.iload 4, 2) := by decide +kernel
theorem dX9_ahead_79 : decode cX9_ahead 79 = .ok (.iload_n 1, 1) := by decide +kernel
theorem dX9_ahead_80 : decode cX9_ahead 80 = .ok (.invokevirtual 225, 3) := by decide +kernel
theorem dX9_ahead_83 : decode cX9_ahead 83 = .ok (.aload_n 0, 1) := by decide +kernel
theorem dX9_ahead_84 : decode cX9_ahead 84 = .ok (.iload 4, 2) := by decide +kernel
theorem dX9_ahead_86 : decode cX9_ahead 86 = .ok (.iload_n 2, 1) := by decide +kernel
theorem dX9_ahead_87 : decode cX9_ahead 87 = .ok (.invokevirtual 225, 3) := by decide +kernel
theorem dX9_ahead_90 : decode cX9_ahead 90 = .ok (.if_icmp .ge 7, 3) := by decide +kernel
theorem dX9_ahead_93 : decode cX9_ahead 93 = .ok (.iconst 1, 1) := by decide +kernel
theorem dX9_ahead_94 : decode cX9_ahead 94 = .ok (.goto 4, 3) := by decide +kernel
theorem dX9_ahead_97 : decode cX9_ahead 97 = .ok (.iconst 0, 1) := by decide +kernel
theorem dX9_ahead_98 : decode cX9_ahead 98 = .ok (.istore 5, 2) := by decide +kernel
theorem dX9_ahead_100 : decode cX9_ahead 100 = .ok (.iload_n 3, 1) := by decide +kernel
theorem dX9_ahead_101 : decode cX9_ahead 101 = .ok (.ifCond .lt 9, 3) := by decide +kernel
theorem dX9_ahead_104 : decode cX9_ahead 104 = .ok (.iload 5, 2) := by decide +kernel
theorem dX9_ahead_106 : decode cX9_ahead 106 = .ok (.iload_n 3, 1) := by decide +kernel
theorem dX9_ahead_107 : decode cX9_ahead 107 = .ok (.if_icmp .ge 8, 3) := by decide +kernel
theorem dX9_ahead_110 : decode cX9_ahead 110 = .ok (.iload 5, 2) := by decide +kernel
theorem dX9_ahead_112 : decode cX9_ahead 112 = .ok (.goto 4, 3) := by decide +kernel
theorem dX9_ahead_115 : decode cX9_ahead 115 = .ok (.iload_n 3, 1) := by decide +kernel
theorem dX9_ahead_116 : decode cX9_ahead 116 = .ok (.istore_n 3, 1) := by decide +kernel
theorem dX9_ahead_117 : decode cX9_ahead 117 = .ok (.iinc 4 1, 3) := by decide +kernel
theorem dX9_ahead_120 : decode cX9_ahead 120 = .ok (.goto (-62), 3) := by decide +kernel
theorem dX9_ahead_123 : decode cX9_ahead 123 = .ok (.iload_n 3, 1) := by decide +kernel
theorem dX9_ahead_124 : decode cX9_ahead 124 = .ok (.ireturn, 1) := by decide +kernel
set_option maxRecDepth 20000 in
theorem ggX9_hangsOn_X9_standing : GoodIn wsX9_hangsOn wsX9_standing := goodIn_r _ [10, 2, 1, 4, 5, 11, 12, 9, 13, 14, 15, 16, 17, 3, 18, 19, 20, 21, 22, 23, 24, 25, 26, 27, 28, 29, 30, 31, 32, 33, 34, 35, 36, 37, 38, 39, 40, 41, 42, 43, 44, 45, 46, 47, 48, 49, 50, 51, 52, 53] (by decide +kernel) (by decide +kernel)
set_option maxRecDepth 20000 in
theorem gX9_hangsOn_X9_standing : GoodIn wsX9_hangsOn (wsV RX9 169 RX9 yX9_standing wsX9_standing) := goodIn_app (goodIn_of _ (by decide +kernel)) ggX9_hangsOn_X9_standing
set_option maxRecDepth 20000 in
theorem ggX9_hangsOn_X9_has : GoodIn wsX9_hangsOn wsX9_has := goodIn_r _ [13] (by decide +kernel) (by decide +kernel)
set_option maxRecDepth 20000 in
theorem gX9_hangsOn_X9_has : GoodIn wsX9_hangsOn (va_wsS RX9 104 yX9_has wsX9_has) := goodIn_app (goodIn_of _ (by decide +kernel)) ggX9_hangsOn_X9_has
set_option maxRecDepth 20000 in
theorem ggX9_hangsOn_X9_isOfTwo : GoodIn wsX9_hangsOn wsX9_isOfTwo := goodIn_r _ [17, 3, 18, 19, 20, 21, 22, 23, 24, 25, 26, 27, 28, 29, 30, 31, 32, 33, 34, 35, 36, 37, 38, 39, 40, 41, 42, 43, 44, 45, 46, 47, 48, 49, 50, 51, 52, 53] (by decide +kernel) (by decide +kernel)
set_option maxRecDepth 20000 in
theorem gX9_hangsOn_X9_isOfTwo : GoodIn wsX9_hangsOn (wsV RX9 166 RX9 yX9_isOfTwo wsX9_isOfTwo) := goodIn_app (goodIn_of _ (by decide +kernel)) ggX9_hangsOn_X9_isOfTwo
theorem dX9_hangsOn_0 : decode cX9_hangsOn 0 = .ok (.aload_n 0, 1) := by decide +kernel
theorem dX9_hangsOn_1 : decode cX9_hangsOn 1 = .ok (.aload_n 0, 1) := by decide +kernel
theorem dX9_hangsOn_2 : decode cX9_hangsOn 2 = .ok (.getfield 22, 3) := by decide +kernel
theorem dX9_hangsOn_5 : decode cX9_hangsOn 5 = .ok (.iconst 0, 1) := by decide +kernel
theorem dX9_hangsOn_6 : decode cX9_hangsOn 6 = .ok (.iaload, 1) := by decide +kernel
theorem dX9_hangsOn_7 : decode cX9_hangsOn 7 = .ok (.invokevirtual 169, 3) := by decide +kernel
theorem dX9_hangsOn_10 : decode cX9_hangsOn 10 = .ok (.istore_n 2, 1) := by decide +kernel
theorem dX9_hangsOn_11 : decode cX9_hangsOn 11 = .ok (.iconst 1, 1) := by decide +kernel
theorem dX9_hangsOn_12 : decode cX9_hangsOn 12 = .ok (.iload_n 1, 1) := by decide +kernel
theorem dX9_hangsOn_13 : decode cX9_hangsOn 13 = .ok (.ishl, 1) := by decide +kernel
theorem dX9_hangsOn_14 : decode cX9_hangsOn 14 = .ok (.istore_n 3, 1) := by decide +kernel
theorem dX9_hangsOn_15 : decode cX9_hangsOn 15 = .ok (.iconst 0, 1) := by decide +kernel
theorem dX9_hangsOn_16 : decode cX9_hangsOn 16 = .ok (.istore 4, 2) := by decide +kernel
theorem dX9_hangsOn_18 : decode cX9_hangsOn 18 = .ok (.iload 4, 2) := by decide +kernel
theorem dX9_hangsOn_20 : decode cX9_hangsOn 20 = .ok (.bipush 6, 2) := by decide +kernel
theorem dX9_hangsOn_22 : decode cX9_hangsOn 22 = .ok (.if_icmp .ge 135, 3) := by decide +kernel
theorem dX9_hangsOn_25 : decode cX9_hangsOn 25 = .ok (.iconst 0, 1) := by decide +kernel
theorem dX9_hangsOn_26 : decode cX9_hangsOn 26 = .ok (.istore 5, 2) := by decide +kernel
theorem dX9_hangsOn_28 : decode cX9_hangsOn 28 = .ok (.iload 5, 2) := by decide +kernel
theorem dX9_hangsOn_30 : decode cX9_hangsOn 30 = .ok (.aload_n 0, 1) := by decide +kernel
theorem dX9_hangsOn_31 : decode cX9_hangsOn 31 = .ok (.getfield 145, 3) := by decide +kernel
theorem dX9_hangsOn_34 : decode cX9_hangsOn 34 = .ok (.if_icmp .ge 117, 3) := by decide +kernel
theorem dX9_hangsOn_37 : decode cX9_hangsOn 37 = .ok (.aload_n 0, 1) := by decide +kernel
theorem dX9_hangsOn_38 : decode cX9_hangsOn 38 = .ok (.getfield 13, 3) := by decide +kernel
theorem dX9_hangsOn_41 : decode cX9_hangsOn 41 = .ok (.iload 5, 2) := by decide +kernel
theorem dX9_hangsOn_43 : decode cX9_hangsOn 43 = .ok (.iaload, 1) := by decide +kernel
theorem dX9_hangsOn_44 : decode cX9_hangsOn 44 = .ok (.ifCond .ne 13, 3) := by decide +kernel
theorem dX9_hangsOn_47 : decode cX9_hangsOn 47 = .ok (.aload_n 0, 1) := by decide +kernel
theorem dX9_hangsOn_48 : decode cX9_hangsOn 48 = .ok (.getfield 16, 3) := by decide +kernel
theorem dX9_hangsOn_51 : decode cX9_hangsOn 51 = .ok (.iload 5, 2) := by decide +kernel
theorem dX9_hangsOn_53 : decode cX9_hangsOn 53 = .ok (.iaload, 1) := by decide +kernel
theorem dX9_hangsOn_54 : decode cX9_hangsOn 54 = .ok (.goto 10, 3) := by decide +kernel
theorem dX9_hangsOn_57 : decode cX9_hangsOn 57 = .ok (.aload_n 0, 1) := by decide +kernel
theorem dX9_hangsOn_58 : decode cX9_hangsOn 58 = .ok (.getfield 19, 3) := by decide +kernel
theorem dX9_hangsOn_61 : decode cX9_hangsOn 61 = .ok (.iload 5, 2) := by decide +kernel
theorem dX9_hangsOn_63 : decode cX9_hangsOn 63 = .ok (.iaload, 1) := by decide +kernel
theorem dX9_hangsOn_64 : decode cX9_hangsOn 64 = .ok (.istore 6, 2) := by decide +kernel
theorem dX9_hangsOn_66 : decode cX9_hangsOn 66 = .ok (.aload_n 0, 1) := by decide +kernel
theorem dX9_hangsOn_67 : decode cX9_hangsOn 67 = .ok (.getfield 13, 3) := by decide +kernel
theorem dX9_hangsOn_70 : decode cX9_hangsOn 70 = .ok (.iload 5, 2) := by decide +kernel
theorem dX9_hangsOn_72 : decode cX9_hangsOn 72 = .ok (.iaload, 1) := by decide +kernel
theorem dX9_hangsOn_73 : decode cX9_hangsOn 73 = .ok (.ifCond .ne 13, 3) := by decide +kernel
theorem dX9_hangsOn_76 : decode cX9_hangsOn 76 = .ok (.aload_n 0, 1) := by decide +kernel
theorem dX9_hangsOn_77 : decode cX9_hangsOn 77 = .ok (.getfield 19, 3) := by decide +kernel
theorem dX9_hangsOn_80 : decode cX9_hangsOn 80 = .ok (.iload 5, 2) := by decide +kernel
theorem dX9_hangsOn_82 : decode cX9_hangsOn 82 = .ok (.iaload, 1) := by decide +kernel
theorem dX9_hangsOn_83 : decode cX9_hangsOn 83 = .ok (.goto 10, 3) := by decide +kernel
theorem dX9_hangsOn_86 : decode cX9_hangsOn 86 = .ok (.aload_n 0, 1) := by decide +kernel
theorem dX9_hangsOn_87 : decode cX9_hangsOn 87 = .ok (.getfield 16, 3) := by decide +kernel
theorem dX9_hangsOn_90 : decode cX9_hangsOn 90 = .ok (.iload 5, 2) := by decide +kernel
theorem dX9_hangsOn_92 : decode cX9_hangsOn 92 = .ok (.iaload, 1) := by decide +kernel
theorem dX9_hangsOn_93 : decode cX9_hangsOn 93 = .ok (.istore 7, 2) := by decide +kernel
theorem dX9_hangsOn_95 : decode cX9_hangsOn 95 = .ok (.iload_n 2, 1) := by decide +kernel
theorem dX9_hangsOn_96 : decode cX9_hangsOn 96 = .ok (.iload 5, 2) := by decide +kernel
theorem dX9_hangsOn_98 : decode cX9_hangsOn 98 = .ok (.invokestatic 104, 3) := by decide +kernel
theorem dX9_hangsOn_101 : decode cX9_hangsOn 101 = .ok (.ifCond .eq 25, 3) := by decide +kernel
theorem dX9_hangsOn_104 : decode cX9_hangsOn 104 = .ok (.aload_n 0, 1) := by decide +kernel
theorem dX9_hangsOn_105 : decode cX9_hangsOn 105 = .ok (.iload 5, 2) := by decide +kernel
theorem dX9_hangsOn_107 : decode cX9_hangsOn 107 = .ok (.invokevirtual 166, 3) := by decide +kernel
theorem dX9_hangsOn_110 : decode cX9_hangsOn 110 = .ok (.ifCond .eq 16, 3) := by decide +kernel
theorem dX9_hangsOn_113 : decode cX9_hangsOn 113 = .ok (.iload_n 3, 1) := by decide +kernel
theorem dX9_hangsOn_114 : decode cX9_hangsOn 114 = .ok (.iload 6, 2) := by decide +kernel
theorem dX9_hangsOn_116 : decode cX9_hangsOn 116 = .ok (.invokestatic 104, 3) := by decide +kernel
theorem dX9_hangsOn_119 : decode cX9_hangsOn 119 = .ok (.ifCond .eq 7, 3) := by decide +kernel
theorem dX9_hangsOn_122 : decode cX9_hangsOn 122 = .ok (.iconst 1, 1) := by decide +kernel
theorem dX9_hangsOn_123 : decode cX9_hangsOn 123 = .ok (.goto 4, 3) := by decide +kernel
theorem dX9_hangsOn_126 : decode cX9_hangsOn 126 = .ok (.iconst 0, 1) := by decide +kernel
theorem dX9_hangsOn_127 : decode cX9_hangsOn 127 = .ok (.istore 8, 2) := by decide +kernel
theorem dX9_hangsOn_129 : decode cX9_hangsOn 129 = .ok (.iload_n 3, 1) := by decide +kernel
theorem dX9_hangsOn_130 : decode cX9_hangsOn 130 = .ok (.iload 8, 2) := by decide +kernel
theorem dX9_hangsOn_132 : decode cX9_hangsOn 132 = .ok (.ifCond .eq 10, 3) := by decide +kernel
theorem dX9_hangsOn_135 : decode cX9_hangsOn 135 = .ok (.iconst 1, 1) := by decide +kernel
theorem dX9_hangsOn_136 : decode cX9_hangsOn 136 = .ok (.iload 7, 2) := by decide +kernel
theorem dX9_hangsOn_138 : decode cX9_hangsOn 138 = .ok (.ishl, 1) := by decide +kernel
theorem dX9_hangsOn_139 : decode cX9_hangsOn 139 = .ok (.goto 4, 3) := by decide +kernel
theorem dX9_hangsOn_142 : decode cX9_hangsOn 142 = .ok (.iconst 0, 1) := by decide +kernel
theorem dX9_hangsOn_143 : decode cX9_hangsOn 143 = .ok (.ior, 1) := by decide +kernel
theorem dX9_hangsOn_144 : decode cX9_hangsOn 144 = .ok (.istore_n 3, 1) := by decide +kernel
theorem dX9_hangsOn_145 : decode cX9_hangsOn 145 = .ok (.iinc 5 1, 3) := by decide +kernel
theorem dX9_hangsOn_148 : decode cX9_hangsOn 148 = .ok (.goto (-120), 3) := by decide +kernel
theorem dX9_hangsOn_151 : decode cX9_hangsOn 151 = .ok (.iinc 4 1, 3) := by decide +kernel
theorem dX9_hangsOn_154 : decode cX9_hangsOn 154 = .ok (.goto (-136), 3) := by decide +kernel
theorem dX9_hangsOn_157 : decode cX9_hangsOn 157 = .ok (.iload_n 3, 1) := by decide +kernel
theorem dX9_hangsOn_158 : decode cX9_hangsOn 158 = .ok (.iconst 1, 1) := by decide +kernel
theorem dX9_hangsOn_159 : decode cX9_hangsOn 159 = .ok (.iload_n 1, 1) := by decide +kernel
theorem dX9_hangsOn_160 : decode cX9_hangsOn 160 = .ok (.ishl, 1) := by decide +kernel
theorem dX9_hangsOn_161 : decode cX9_hangsOn 161 = .ok (.iconst (-1), 1) := by decide +kernel
theorem dX9_hangsOn_162 : decode cX9_hangsOn 162 = .ok (.ixor, 1) := by decide +kernel
theorem dX9_hangsOn_163 : decode cX9_hangsOn 163 = .ok (.iand, 1) := by decide +kernel
theorem dX9_hangsOn_164 : decode cX9_hangsOn 164 = .ok (.ireturn, 1) := by decide +kernel
set_option maxRecDepth 20000 in
theorem ggX9_hangs_X9_isGuest : GoodIn wsX9_hangs wsX9_isGuest := goodIn_r _ [5, 6, 7, 8, 4, 9, 34, 35, 36, 37, 38, 39, 40, 41, 42, 43, 44, 45, 46, 47, 48, 49, 50, 51, 52, 53, 54, 55, 56, 57, 58, 59, 60, 61, 62, 63, 64, 65, 66, 67, 68, 69] (by decide +kernel) (by decide +kernel)
set_option maxRecDepth 20000 in
theorem gX9_hangs_X9_isGuest : GoodIn wsX9_hangs (wsV RX9 160 RX9 yX9_isGuest wsX9_isGuest) := goodIn_app (goodIn_of _ (by decide +kernel)) ggX9_hangs_X9_isGuest
set_option maxRecDepth 20000 in
theorem ggX9_hangs_X9_isHere : GoodIn wsX9_hangs wsX9_isHere := goodIn_r _ [13, 14, 15, 16, 4, 17, 34, 35, 36, 37, 38, 39, 40, 41, 42, 43, 44, 45, 46, 47, 48, 49, 50, 51, 52, 53, 54, 55, 56, 57, 58, 59, 60, 61, 62, 63, 64, 65, 66, 67, 68, 69] (by decide +kernel) (by decide +kernel)
set_option maxRecDepth 20000 in
theorem gX9_hangs_X9_isHere : GoodIn wsX9_hangs (wsV RX9 222 RX9 yX9_isHere wsX9_isHere) := goodIn_app (goodIn_of _ (by decide +kernel)) ggX9_hangs_X9_isHere
set_option maxRecDepth 20000 in
theorem ggX9_hangs_X9_hangsOn : GoodIn wsX9_hangs wsX9_hangsOn := goodIn_r _ [21, 14, 22, 23, 24, 25, 26, 27, 28, 4, 29, 15, 16, 17, 30, 31, 32, 33, 34, 35, 36, 37, 38, 39, 40, 41, 42, 43, 44, 45, 46, 47, 48, 49, 50, 51, 52, 53, 54, 55, 56, 57, 58, 59, 60, 61, 62, 63, 64, 65, 66, 67, 68, 69] (by decide +kernel) (by decide +kernel)
set_option maxRecDepth 20000 in
theorem gX9_hangs_X9_hangsOn : GoodIn wsX9_hangs (wsV RX9 229 RX9 yX9_hangsOn wsX9_hangsOn) := goodIn_app (goodIn_of _ (by decide +kernel)) ggX9_hangs_X9_hangsOn
theorem dX9_hangs_0 : decode cX9_hangs 0 = .ok (.aload_n 0, 1) := by decide +kernel
theorem dX9_hangs_1 : decode cX9_hangs 1 = .ok (.iload_n 1, 1) := by decide +kernel
theorem dX9_hangs_2 : decode cX9_hangs 2 = .ok (.invokevirtual 160, 3) := by decide +kernel
theorem dX9_hangs_5 : decode cX9_hangs 5 = .ok (.ifCond .ne 7, 3) := by decide +kernel
theorem dX9_hangs_8 : decode cX9_hangs 8 = .ok (.iconst (-1), 1) := by decide +kernel
theorem dX9_hangs_9 : decode cX9_hangs 9 = .ok (.goto 21, 3) := by decide +kernel
theorem dX9_hangs_12 : decode cX9_hangs 12 = .ok (.aload_n 0, 1) := by decide +kernel
theorem dX9_hangs_13 : decode cX9_hangs 13 = .ok (.iload_n 1, 1) := by decide +kernel
theorem dX9_hangs_14 : decode cX9_hangs 14 = .ok (.invokevirtual 222, 3) := by decide +kernel
theorem dX9_hangs_17 : decode cX9_hangs 17 = .ok (.ifCond .ne 8, 3) := by decide +kernel
theorem dX9_hangs_20 : decode cX9_hangs 20 = .ok (.bipush (-2), 2) := by decide +kernel
theorem dX9_hangs_22 : decode cX9_hangs 22 = .ok (.goto 8, 3) := by decide +kernel
theorem dX9_hangs_25 : decode cX9_hangs 25 = .ok (.aload_n 0, 1) := by decide +kernel
theorem dX9_hangs_26 : decode cX9_hangs 26 = .ok (.iload_n 1, 1) := by decide +kernel
theorem dX9_hangs_27 : decode cX9_hangs 27 = .ok (.invokevirtual 229, 3) := by decide +kernel
theorem dX9_hangs_30 : decode cX9_hangs 30 = .ok (.ireturn, 1) := by decide +kernel
set_option maxRecDepth 20000 in
theorem ggX9_woken_X9_isGuest : GoodIn wsX9_woken wsX9_isGuest := goodIn_r _ [7, 8, 9, 10, 6, 11, 12, 13, 14, 15, 16, 17, 18, 19, 20, 21, 22, 23, 24, 25, 26, 27, 28, 29, 30, 31, 32, 33, 34, 35, 36, 37, 38, 39, 40, 41, 42, 43, 44, 45, 46, 47] (by decide +kernel) (by decide +kernel)
set_option maxRecDepth 20000 in
theorem gX9_woken_X9_isGuest : GoodIn wsX9_woken (wsV RX9 160 RX9 yX9_isGuest wsX9_isGuest) := goodIn_app (goodIn_of _ (by decide +kernel)) ggX9_woken_X9_isGuest
theorem dX9_woken_0 : decode cX9_woken 0 = .ok (.aload_n 0, 1) := by decide +kernel
theorem dX9_woken_1 : decode cX9_woken 1 = .ok (.iload_n 1, 1) := by decide +kernel
theorem dX9_woken_2 : decode cX9_woken 2 = .ok (.invokevirtual 160, 3) := by decide +kernel
theorem dX9_woken_5 : decode cX9_woken 5 = .ok (.ifCond .eq 16, 3) := by decide +kernel
theorem dX9_woken_8 : decode cX9_woken 8 = .ok (.aload_n 0, 1) := by decide +kernel
theorem dX9_woken_9 : decode cX9_woken 9 = .ok (.iload_n 2, 1) := by decide +kernel
theorem dX9_woken_10 : decode cX9_woken 10 = .ok (.invokevirtual 160, 3) := by decide +kernel
theorem dX9_woken_13 : decode cX9_woken 13 = .ok (.ifCond .eq 8, 3) := by decide +kernel
theorem dX9_woken_16 : decode cX9_woken 16 = .ok (.iload_n 1, 1) := by decide +kernel
theorem dX9_woken_17 : decode cX9_woken 17 = .ok (.iload_n 2, 1) := by decide +kernel
theorem dX9_woken_18 : decode cX9_woken 18 = .ok (.if_icmp .ne 5, 3) := by decide +kernel
theorem dX9_woken_21 : decode cX9_woken 21 = .ok (.iconst (-1), 1) := by decide +kernel
theorem dX9_woken_22 : decode cX9_woken 22 = .ok (.ireturn, 1) := by decide +kernel
theorem dX9_woken_23 : decode cX9_woken 23 = .ok (.aload_n 0, 1) := by decide +kernel
theorem dX9_woken_24 : decode cX9_woken 24 = .ok (.getfield 157, 3) := by decide +kernel
theorem dX9_woken_27 : decode cX9_woken 27 = .ok (.bipush 6, 2) := by decide +kernel
theorem dX9_woken_29 : decode cX9_woken 29 = .ok (.if_icmp .ne 6, 3) := by decide +kernel
theorem dX9_woken_32 : decode cX9_woken 32 = .ok (.bipush (-3), 2) := by decide +kernel
theorem dX9_woken_34 : decode cX9_woken 34 = .ok (.ireturn, 1) := by decide +kernel
theorem dX9_woken_35 : decode cX9_woken 35 = .ok (.aload_n 0, 1) := by decide +kernel
theorem dX9_woken_36 : decode cX9_woken 36 = .ok (.getfield 31, 3) := by decide +kernel
theorem dX9_woken_39 : decode cX9_woken 39 = .ok (.iconst 2, 1) := by decide +kernel
theorem dX9_woken_40 : decode cX9_woken 40 = .ok (.aload_n 0, 1) := by decide +kernel
theorem dX9_woken_41 : decode cX9_woken 41 = .ok (.getfield 157, 3) := by decide +kernel
theorem dX9_woken_44 : decode cX9_woken 44 = .ok (.imul, 1) := by decide +kernel
theorem dX9_woken_45 : decode cX9_woken 45 = .ok (.iload_n 1, 1) := by decide +kernel
theorem dX9_woken_46 : decode cX9_woken 46 = .ok (.iastore, 1) := by decide +kernel
theorem dX9_woken_47 : decode cX9_woken 47 = .ok (.aload_n 0, 1) := by decide +kernel
theorem dX9_woken_48 : decode cX9_woken 48 = .ok (.getfield 31, 3) := by decide +kernel
theorem dX9_woken_51 : decode cX9_woken 51 = .ok (.iconst 2, 1) := by decide +kernel
theorem dX9_woken_52 : decode cX9_woken 52 = .ok (.aload_n 0, 1) := by decide +kernel
theorem dX9_woken_53 : decode cX9_woken 53 = .ok (.getfield 157, 3) := by decide +kernel
theorem dX9_woken_56 : decode cX9_woken 56 = .ok (.imul, 1) := by decide +kernel
theorem dX9_woken_57 : decode cX9_woken 57 = .ok (.iconst 1, 1) := by decide +kernel
theorem dX9_woken_58 : decode cX9_woken 58 = .ok (.iadd, 1) := by decide +kernel
theorem dX9_woken_59 : decode cX9_woken 59 = .ok (.iload_n 2, 1) := by decide +kernel
theorem dX9_woken_60 : decode cX9_woken 60 = .ok (.iastore, 1) := by decide +kernel
theorem dX9_woken_61 : decode cX9_woken 61 = .ok (.aload_n 0, 1) := by decide +kernel
theorem dX9_woken_62 : decode cX9_woken 62 = .ok (.dup, 1) := by decide +kernel
theorem dX9_woken_63 : decode cX9_woken 63 = .ok (.getfield 157, 3) := by decide +kernel
theorem dX9_woken_66 : decode cX9_woken 66 = .ok (.iconst 1, 1) := by decide +kernel
theorem dX9_woken_67 : decode cX9_woken 67 = .ok (.iadd, 1) := by decide +kernel
theorem dX9_woken_68 : decode cX9_woken 68 = .ok (.putfield 157, 3) := by decide +kernel
theorem dX9_woken_71 : decode cX9_woken 71 = .ok (.aload_n 0, 1) := by decide +kernel
theorem dX9_woken_72 : decode cX9_woken 72 = .ok (.getfield 157, 3) := by decide +kernel
theorem dX9_woken_75 : decode cX9_woken 75 = .ok (.ireturn, 1) := by decide +kernel
theorem dX9_forget_0 : decode cX9_forget 0 = .ok (.aload_n 0, 1) := by decide +kernel
theorem dX9_forget_1 : decode cX9_forget 1 = .ok (.getfield 157, 3) := by decide +kernel
theorem dX9_forget_4 : decode cX9_forget 4 = .ok (.istore_n 1, 1) := by decide +kernel
theorem dX9_forget_5 : decode cX9_forget 5 = .ok (.aload_n 0, 1) := by decide +kernel
theorem dX9_forget_6 : decode cX9_forget 6 = .ok (.iconst 0, 1) := by decide +kernel
theorem dX9_forget_7 : decode cX9_forget 7 = .ok (.putfield 157, 3) := by decide +kernel
theorem dX9_forget_10 : decode cX9_forget 10 = .ok (.iload_n 1, 1) := by decide +kernel
theorem dX9_forget_11 : decode cX9_forget 11 = .ok (.ireturn, 1) := by decide +kernel
set_option maxRecDepth 20000 in
theorem ggX9_isWoken_X9_isHere : GoodIn wsX9_isWoken wsX9_isHere := goodIn_r _ [7, 8, 9, 10, 6, 11, 17, 18, 19, 20, 21, 22, 23, 24, 25, 26, 27, 28, 29, 30, 31, 32, 33, 34, 35, 36, 37, 38, 39, 40, 41, 42, 43, 44, 45, 46, 47, 48, 49, 50, 51, 52] (by decide +kernel) (by decide +kernel)
set_option maxRecDepth 20000 in
theorem gX9_isWoken_X9_isHere : GoodIn wsX9_isWoken (wsV RX9 222 RX9 yX9_isHere wsX9_isHere) := goodIn_app (goodIn_of _ (by decide +kernel)) ggX9_isWoken_X9_isHere
set_option maxRecDepth 20000 in
theorem ggX9_isWoken_X9_placeIn : GoodIn wsX9_isWoken wsX9_placeIn := goodIn_r _ [15, 16, 17, 18, 19, 20, 21, 22, 23, 24, 25, 26, 27, 28, 29, 30, 31, 32, 33, 34, 35, 36, 37, 38, 39, 40, 41, 42, 43, 44, 45, 46, 47, 48, 49, 50, 51, 52] (by decide +kernel) (by decide +kernel)
set_option maxRecDepth 20000 in
theorem gX9_isWoken_X9_placeIn : GoodIn wsX9_isWoken (wsV RX9 225 RX9 yX9_placeIn wsX9_placeIn) := goodIn_app (goodIn_of _ (by decide +kernel)) ggX9_isWoken_X9_placeIn
theorem dX9_isWoken_0 : decode cX9_isWoken 0 = .ok (.iconst 1, 1) := by decide +kernel
theorem dX9_isWoken_1 : decode cX9_isWoken 1 = .ok (.istore_n 2, 1) := by decide +kernel
theorem dX9_isWoken_2 : decode cX9_isWoken 2 = .ok (.iconst 0, 1) := by decide +kernel
theorem dX9_isWoken_3 : decode cX9_isWoken 3 = .ok (.istore_n 3, 1) := by decide +kernel
theorem dX9_isWoken_4 : decode cX9_isWoken 4 = .ok (.iload_n 3, 1) := by decide +kernel
theorem dX9_isWoken_5 : decode cX9_isWoken 5 = .ok (.aload_n 0, 1) := by decide +kernel
theorem dX9_isWoken_6 : decode cX9_isWoken 6 = .ok (.getfield 157, 3) := by decide +kernel
theorem dX9_isWoken_9 : decode cX9_isWoken 9 = .ok (.if_icmp .ge 76, 3) := by decide +kernel
theorem dX9_isWoken_12 : decode cX9_isWoken 12 = .ok (.aload_n 0, 1) := by decide +kernel
theorem dX9_isWoken_13 : decode cX9_isWoken 13 = .ok (.getfield 31, 3) := by decide +kernel
theorem dX9_isWoken_16 : decode cX9_isWoken 16 = .ok (.iconst 2, 1) := by decide +kernel
theorem dX9_isWoken_17 : decode cX9_isWoken 17 = .ok (.iload_n 3, 1) := by decide +kernel
theorem dX9_isWoken_18 : decode cX9_isWoken 18 = .ok (.imul, 1) := by decide +kernel
theorem dX9_isWoken_19 : decode cX9_isWoken 19 = .ok (.iaload, 1) := by decide +kernel
theorem dX9_isWoken_20 : decode cX9_isWoken 20 = .ok (.istore 4, 2) := by decide +kernel
theorem dX9_isWoken_22 : decode cX9_isWoken 22 = .ok (.aload_n 0, 1) := by decide +kernel
theorem dX9_isWoken_23 : decode cX9_isWoken 23 = .ok (.getfield 31, 3) := by decide +kernel
theorem dX9_isWoken_26 : decode cX9_isWoken 26 = .ok (.iconst 2, 1) := by decide +kernel
theorem dX9_isWoken_27 : decode cX9_isWoken 27 = .ok (.iload_n 3, 1) := by decide +kernel
theorem dX9_isWoken_28 : decode cX9_isWoken 28 = .ok (.imul, 1) := by decide +kernel
theorem dX9_isWoken_29 : decode cX9_isWoken 29 = .ok (.iconst 1, 1) := by decide +kernel
theorem dX9_isWoken_30 : decode cX9_isWoken 30 = .ok (.iadd, 1) := by decide +kernel
theorem dX9_isWoken_31 : decode cX9_isWoken 31 = .ok (.iaload, 1) := by decide +kernel
theorem dX9_isWoken_32 : decode cX9_isWoken 32 = .ok (.istore 5, 2) := by decide +kernel
theorem dX9_isWoken_34 : decode cX9_isWoken 34 = .ok (.iload_n 2, 1) := by decide +kernel
theorem dX9_isWoken_35 : decode cX9_isWoken 35 = .ok (.ifCond .eq 42, 3) := by decide +kernel
theorem dX9_isWoken_38 : decode cX9_isWoken 38 = .ok (.aload_n 0, 1) := by decide +kernel
theorem dX9_isWoken_39 : decode cX9_isWoken 39 = .ok (.iload 4, 2) := by decide +kernel
theorem dX9_isWoken_41 : decode cX9_isWoken 41 = .ok (.invokevirtual 222, 3) := by decide +kernel
theorem dX9_isWoken_44 : decode cX9_isWoken 44 = .ok (.ifCond .eq 29, 3) := by decide +kernel
theorem dX9_isWoken_47 : decode cX9_isWoken 47 = .ok (.aload_n 0, 1) := by decide +kernel
theorem dX9_isWoken_48 : decode cX9_isWoken 48 = .ok (.iload 5, 2) := by decide +kernel
theorem dX9_isWoken_50 : decode cX9_isWoken 50 = .ok (.invokevirtual 222, 3) := by decide +kernel
theorem dX9_isWoken_53 : decode cX9_isWoken 53 = .ok (.ifCond .eq 20, 3) := by decide +kernel
theorem dX9_isWoken_56 : decode cX9_isWoken 56 = .ok (.aload_n 0, 1) := by decide +kernel
theorem dX9_isWoken_57 : decode cX9_isWoken 57 = .ok (.iload_n 1, 1) := by decide +kernel
theorem dX9_isWoken_58 : decode cX9_isWoken 58 = .ok (.iload 4, 2) := by decide +kernel
theorem dX9_isWoken_60 : decode cX9_isWoken 60 = .ok (.invokevirtual 225, 3) := by decide +kernel
theorem dX9_isWoken_63 : decode cX9_isWoken 63 = .ok (.aload_n 0, 1) := by decide +kernel
theorem dX9_isWoken_64 : decode cX9_isWoken 64 = .ok (.iload_n 1, 1) := by decide +kernel
theorem dX9_isWoken_65 : decode cX9_isWoken 65 = .ok (.iload 5, 2) := by decide +kernel
theorem dX9_isWoken_67 : decode cX9_isWoken 67 = .ok (.invokevirtual 225, 3) := by decide +kernel
theorem dX9_isWoken_70 : decode cX9_isWoken 70 = .ok (.if_icmp .ge 7, 3) := by decide +kernel
theorem dX9_isWoken_73 : decode cX9_isWoken 73 = .ok (.iconst 1, 1) := by decide +kernel
theorem dX9_isWoken_74 : decode cX9_isWoken 74 = .ok (.goto 4, 3) := by decide +kernel
theorem dX9_isWoken_77 : decode cX9_isWoken 77 = .ok (.iconst 0, 1) := by decide +kernel
theorem dX9_isWoken_78 : decode cX9_isWoken 78 = .ok (.istore_n 2, 1) := by decide +kernel
theorem dX9_isWoken_79 : decode cX9_isWoken 79 = .ok (.iinc 3 1, 3) := by decide +kernel
theorem dX9_isWoken_82 : decode cX9_isWoken 82 = .ok (.goto (-78), 3) := by decide +kernel
theorem dX9_isWoken_85 : decode cX9_isWoken 85 = .ok (.iload_n 2, 1) := by decide +kernel
theorem dX9_isWoken_86 : decode cX9_isWoken 86 = .ok (.ireturn, 1) := by decide +kernel
set_option maxRecDepth 20000 in
theorem ggX9_slates_X9_in : GoodIn wsX9_slates wsX9_in := goodIn_r _ [6] (by decide +kernel) (by decide +kernel)
set_option maxRecDepth 20000 in
theorem gX9_slates_X9_in : GoodIn wsX9_slates (va_wsS RX9 100 yX9_in wsX9_in) := goodIn_app (goodIn_of _ (by decide +kernel)) ggX9_slates_X9_in
set_option maxRecDepth 20000 in
theorem ggX9_slates_X9_findRounds : GoodIn wsX9_slates wsX9_findRounds := goodIn_r _ [10, 11, 12, 13, 14, 15, 2, 16, 17, 18, 19, 20, 21, 22, 5, 23, 1, 24, 25, 26, 27, 28, 29, 30, 31, 32, 33, 34, 35, 36, 37, 38, 39, 40, 41, 42, 43, 44, 45, 46, 47, 48, 49, 50, 51, 52, 53, 54, 55, 56, 57, 58, 59, 60, 61, 84, 85, 86, 87, 88, 89, 90, 91, 92, 93, 94, 95, 96, 97, 98, 99, 100, 101, 102, 103, 104, 105, 106, 107, 108, 109, 110, 111, 112, 113, 114, 115, 116, 117, 118, 119] (by decide +kernel) (by decide +kernel)
set_option maxRecDepth 20000 in
theorem gX9_slates_X9_findRounds : GoodIn wsX9_slates (wsV RX9 209 RX9 yX9_findRounds wsX9_findRounds) := goodIn_app (goodIn_of _ (by decide +kernel)) ggX9_slates_X9_findRounds
set_option maxRecDepth 20000 in
theorem ggX9_slates_X9_isGuest : GoodIn wsX9_slates wsX9_isGuest := goodIn_r _ [65, 14, 3, 4, 5, 6, 84, 85, 86, 87, 88, 89, 90, 91, 92, 93, 94, 95, 96, 97, 98, 99, 100, 101, 102, 103, 104, 105, 106, 107, 108, 109, 110, 111, 112, 113, 114, 115, 116, 117, 118, 119] (by decide +kernel) (by decide +kernel)
set_option maxRecDepth 20000 in
theorem gX9_slates_X9_isGuest : GoodIn wsX9_slates (wsV RX9 160 RX9 yX9_isGuest wsX9_isGuest) := goodIn_app (goodIn_of _ (by decide +kernel)) ggX9_slates_X9_isGuest
set_option maxRecDepth 20000 in
theorem ggX9_slates_X9_isHere : GoodIn wsX9_slates wsX9_isHere := goodIn_r _ [69, 1, 26, 27, 5, 28, 84, 85, 86, 87, 88, 89, 90, 91, 92, 93, 94, 95, 96, 97, 98, 99, 100, 101, 102, 103, 104, 105, 106, 107, 108, 109, 110, 111, 112, 113, 114, 115, 116, 117, 118, 119] (by decide +kernel) (by decide +kernel)
set_option maxRecDepth 20000 in
theorem gX9_slates_X9_isHere : GoodIn wsX9_slates (wsV RX9 222 RX9 yX9_isHere wsX9_isHere) := goodIn_app (goodIn_of _ (by decide +kernel)) ggX9_slates_X9_isHere
set_option maxRecDepth 20000 in
theorem ggX9_slates_X9_isGood : GoodIn wsX9_slates wsX9_isGood := goodIn_r _ [73, 17, 12, 84, 85, 86, 87, 88, 89, 90, 91, 92, 93, 94, 95, 96, 97, 98, 99, 100, 101, 102, 103, 104, 105, 106, 107, 108, 109, 110, 111, 112, 113, 114, 115, 116, 117, 118, 119] (by decide +kernel) (by decide +kernel)
set_option maxRecDepth 20000 in
theorem gX9_slates_X9_isGood : GoodIn wsX9_slates (wsV RX9 213 RX9 yX9_isGood wsX9_isGood) := goodIn_app (goodIn_of _ (by decide +kernel)) ggX9_slates_X9_isGood
set_option maxRecDepth 20000 in
theorem ggX9_slates_X9_placeIn : GoodIn wsX9_slates wsX9_placeIn := goodIn_r _ [77, 19, 84, 85, 86, 87, 88, 89, 90, 91, 92, 93, 94, 95, 96, 97, 98, 99, 100, 101, 102, 103, 104, 105, 106, 107, 108, 109, 110, 111, 112, 113, 114, 115, 116, 117, 118, 119] (by decide +kernel) (by decide +kernel)
set_option maxRecDepth 20000 in
theorem gX9_slates_X9_placeIn : GoodIn wsX9_slates (wsV RX9 225 RX9 yX9_placeIn wsX9_placeIn) := goodIn_app (goodIn_of _ (by decide +kernel)) ggX9_slates_X9_placeIn
set_option maxRecDepth 20000 in
theorem ggX9_slates_X9_isWoken : GoodIn wsX9_slates wsX9_isWoken := goodIn_r _ [81, 82, 83, 66, 67, 68, 5, 69, 1, 26, 27, 28, 74, 75, 76, 77, 19, 84, 85, 86, 87, 88, 89, 90, 91, 92, 93, 94, 95, 96, 97, 98, 99, 100, 101, 102, 103, 104, 105, 106, 107, 108, 109, 110, 111, 112, 113, 114, 115, 116, 117, 118, 119] (by decide +kernel) (by decide +kernel)
set_option maxRecDepth 20000 in
theorem gX9_slates_X9_isWoken : GoodIn wsX9_slates (wsV RX9 232 RX9 yX9_isWoken wsX9_isWoken) := goodIn_app (goodIn_of _ (by decide +kernel)) ggX9_slates_X9_isWoken
theorem dX9_slates_0 : decode cX9_slates 0 = .ok (.iload_n 1, 1) := by decide +kernel
theorem dX9_slates_1 : decode cX9_slates 1 = .ok (.iconst 0, 1) := by decide +kernel
theorem dX9_slates_2 : decode cX9_slates 2 = .ok (.iconst 1, 1) := by decide +kernel
theorem dX9_slates_3 : decode cX9_slates 3 = .ok (.invokestatic 100, 3) := by decide +kernel
theorem dX9_slates_6 : decode cX9_slates 6 = .ok (.ifCond .ne 5, 3) := by decide +kernel
theorem dX9_slates_9 : decode cX9_slates 9 = .ok (.iconst (-1), 1) := by decide +kernel
theorem dX9_slates_10 : decode cX9_slates 10 = .ok (.ireturn, 1) := by decide +kernel
theorem dX9_slates_11 : decode cX9_slates 11 = .ok (.aload_n 0, 1) := by decide +kernel
theorem dX9_slates_12 : decode cX9_slates 12 = .ok (.aload_n 0, 1) := by decide +kernel
theorem dX9_slates_13 : decode cX9_slates 13 = .ok (.getfield 22, 3) := by decide +kernel
theorem dX9_slates_16 : decode cX9_slates 16 = .ok (.iconst 0, 1) := by decide +kernel
theorem dX9_slates_17 : decode cX9_slates 17 = .ok (.iaload, 1) := by decide +kernel
theorem dX9_slates_18 : decode cX9_slates 18 = .ok (.invokevirtual 209, 3) := by decide +kernel
theorem dX9_slates_21 : decode cX9_slates 21 = .ok (.iconst 0, 1) := by decide +kernel
theorem dX9_slates_22 : decode cX9_slates 22 = .ok (.istore_n 2, 1) := by decide +kernel
theorem dX9_slates_23 : decode cX9_slates 23 = .ok (.bipush (-4), 2) := by decide +kernel
theorem dX9_slates_25 : decode cX9_slates 25 = .ok (.istore_n 3, 1) := by decide +kernel
theorem dX9_slates_26 : decode cX9_slates 26 = .ok (.bipush 99, 2) := by decide +kernel
theorem dX9_slates_28 : decode cX9_slates 28 = .ok (.istore 4, 2) := by decide +kernel
theorem dX9_slates_30 : decode cX9_slates 30 = .ok (.iload 4, 2) := by decide +kernel
theorem dX9_slates_32 : decode cX9_slates 32 = .ok (.ifCond .lt 161, 3) := by decide +kernel
theorem dX9_slates_35 : decode cX9_slates 35 = .ok (.iload 4, 2) := by decide +kernel
theorem dX9_slates_37 : decode cX9_slates 37 = .ok (.bipush 10, 2) := by decide +kernel
theorem dX9_slates_39 : decode cX9_slates 39 = .ok (.idiv, 1) := by decide +kernel
theorem dX9_slates_40 : decode cX9_slates 40 = .ok (.istore 5, 2) := by decide +kernel
theorem dX9_slates_42 : decode cX9_slates 42 = .ok (.iload 4, 2) := by decide +kernel
theorem dX9_slates_44 : decode cX9_slates 44 = .ok (.bipush 10, 2) := by decide +kernel
theorem dX9_slates_46 : decode cX9_slates 46 = .ok (.irem, 1) := by decide +kernel
theorem dX9_slates_47 : decode cX9_slates 47 = .ok (.istore 6, 2) := by decide +kernel
theorem dX9_slates_49 : decode cX9_slates 49 = .ok (.iconst 0, 1) := by decide +kernel
theorem dX9_slates_50 : decode cX9_slates 50 = .ok (.istore 7, 2) := by decide +kernel
theorem dX9_slates_52 : decode cX9_slates 52 = .ok (.iconst 0, 1) := by decide +kernel
theorem dX9_slates_53 : decode cX9_slates 53 = .ok (.istore 8, 2) := by decide +kernel
theorem dX9_slates_55 : decode cX9_slates 55 = .ok (.iload 8, 2) := by decide +kernel
theorem dX9_slates_57 : decode cX9_slates 57 = .ok (.aload_n 0, 1) := by decide +kernel
theorem dX9_slates_58 : decode cX9_slates 58 = .ok (.getfield 197, 3) := by decide +kernel
theorem dX9_slates_61 : decode cX9_slates 61 = .ok (.if_icmp .ge 101, 3) := by decide +kernel
theorem dX9_slates_64 : decode cX9_slates 64 = .ok (.iload 5, 2) := by decide +kernel
theorem dX9_slates_66 : decode cX9_slates 66 = .ok (.iload 6, 2) := by decide +kernel
theorem dX9_slates_68 : decode cX9_slates 68 = .ok (.if_icmp .eq 94, 3) := by decide +kernel
theorem dX9_slates_71 : decode cX9_slates 71 = .ok (.aload_n 0, 1) := by decide +kernel
theorem dX9_slates_72 : decode cX9_slates 72 = .ok (.iload 5, 2) := by decide +kernel
theorem dX9_slates_74 : decode cX9_slates 74 = .ok (.invokevirtual 160, 3) := by decide +kernel
theorem dX9_slates_77 : decode cX9_slates 77 = .ok (.ifCond .eq 85, 3) := by decide +kernel
theorem dX9_slates_80 : decode cX9_slates 80 = .ok (.aload_n 0, 1) := by decide +kernel
theorem dX9_slates_81 : decode cX9_slates 81 = .ok (.iload 6, 2) := by decide +kernel
theorem dX9_slates_83 : decode cX9_slates 83 = .ok (.invokevirtual 160, 3) := by decide +kernel
theorem dX9_slates_86 : decode cX9_slates 86 = .ok (.ifCond .eq 76, 3) := by decide +kernel
theorem dX9_slates_89 : decode cX9_slates 89 = .ok (.aload_n 0, 1) := by decide +kernel
theorem dX9_slates_90 : decode cX9_slates 90 = .ok (.iload 5, 2) := by decide +kernel
theorem dX9_slates_92 : decode cX9_slates 92 = .ok (.invokevirtual 222, 3) := by decide +kernel
theorem dX9_slates_95 : decode cX9_slates 95 = .ok (.ifCond .eq 67, 3) := by decide +kernel
theorem dX9_slates_98 : decode cX9_slates 98 = .ok (.aload_n 0, 1) := by decide +kernel
theorem dX9_slates_99 : decode cX9_slates 99 = .ok (.iload 6, 2) := by decide +kernel
theorem dX9_slates_101 : decode cX9_slates 101 = .ok (.invokevirtual 222, 3) := by decide +kernel
theorem dX9_slates_104 : decode cX9_slates 104 = .ok (.ifCond .eq 58, 3) := by decide +kernel
theorem dX9_slates_107 : decode cX9_slates 107 = .ok (.iload 7, 2) := by decide +kernel
theorem dX9_slates_109 : decode cX9_slates 109 = .ok (.ifCond .ne 53, 3) := by decide +kernel
theorem dX9_slates_112 : decode cX9_slates 112 = .ok (.aload_n 0, 1) := by decide +kernel
theorem dX9_slates_113 : decode cX9_slates 113 = .ok (.iload 8, 2) := by decide +kernel
theorem dX9_slates_115 : decode cX9_slates 115 = .ok (.invokevirtual 213, 3) := by decide +kernel
theorem dX9_slates_118 : decode cX9_slates 118 = .ok (.ifCond .eq 35, 3) := by decide +kernel
theorem dX9_slates_121 : decode cX9_slates 121 = .ok (.aload_n 0, 1) := by decide +kernel
theorem dX9_slates_122 : decode cX9_slates 122 = .ok (.iload 8, 2) := by decide +kernel
theorem dX9_slates_124 : decode cX9_slates 124 = .ok (.iload 5, 2) := by decide +kernel
theorem dX9_slates_126 : decode cX9_slates 126 = .ok (.invokevirtual 225, 3) := by decide +kernel
theorem dX9_slates_129 : decode cX9_slates 129 = .ok (.aload_n 0, 1) := by decide +kernel
theorem dX9_slates_130 : decode cX9_slates 130 = .ok (.iload 8, 2) := by decide +kernel
theorem dX9_slates_132 : decode cX9_slates 132 = .ok (.iload 6, 2) := by decide +kernel
theorem dX9_slates_134 : decode cX9_slates 134 = .ok (.invokevirtual 225, 3) := by decide +kernel
theorem dX9_slates_137 : decode cX9_slates 137 = .ok (.if_icmp .ge 16, 3) := by decide +kernel
theorem dX9_slates_140 : decode cX9_slates 140 = .ok (.aload_n 0, 1) := by decide +kernel
theorem dX9_slates_141 : decode cX9_slates 141 = .ok (.iload 8, 2) := by decide +kernel
theorem dX9_slates_143 : decode cX9_slates 143 = .ok (.invokevirtual 232, 3) := by decide +kernel
theorem dX9_slates_146 : decode cX9_slates 146 = .ok (.ifCond .eq 7, 3) := by decide +kernel
theorem dX9_slates_149 : decode cX9_slates 149 = .ok (.iconst 1, 1) := by decide +kernel
theorem dX9_slates_150 : decode cX9_slates 150 = .ok (.goto 4, 3) := by decide +kernel
theorem dX9_slates_153 : decode cX9_slates 153 = .ok (.iconst 0, 1) := by decide +kernel
theorem dX9_slates_154 : decode cX9_slates 154 = .ok (.istore 7, 2) := by decide +kernel
theorem dX9_slates_156 : decode cX9_slates 156 = .ok (.iinc 8 1, 3) := by decide +kernel
theorem dX9_slates_159 : decode cX9_slates 159 = .ok (.goto (-104), 3) := by decide +kernel
theorem dX9_slates_162 : decode cX9_slates 162 = .ok (.iload_n 2, 1) := by decide +kernel
theorem dX9_slates_163 : decode cX9_slates 163 = .ok (.iload 7, 2) := by decide +kernel
theorem dX9_slates_165 : decode cX9_slates 165 = .ok (.ifCond .eq 7, 3) := by decide +kernel
theorem dX9_slates_168 : decode cX9_slates 168 = .ok (.iconst 1, 1) := by decide +kernel
theorem dX9_slates_169 : decode cX9_slates 169 = .ok (.goto 4, 3) := by decide +kernel
theorem dX9_slates_172 : decode cX9_slates 172 = .ok (.iconst 0, 1) := by decide +kernel
theorem dX9_slates_173 : decode cX9_slates 173 = .ok (.iadd, 1) := by decide +kernel
theorem dX9_slates_174 : decode cX9_slates 174 = .ok (.istore_n 2, 1) := by decide +kernel
theorem dX9_slates_175 : decode cX9_slates 175 = .ok (.iload 7, 2) := by decide +kernel
theorem dX9_slates_177 : decode cX9_slates 177 = .ok (.ifCond .eq 8, 3) := by decide +kernel
theorem dX9_slates_180 : decode cX9_slates 180 = .ok (.iload 4, 2) := by decide +kernel
theorem dX9_slates_182 : decode cX9_slates 182 = .ok (.goto 4, 3) := by decide +kernel
theorem dX9_slates_185 : decode cX9_slates 185 = .ok (.iload_n 3, 1) := by decide +kernel
theorem dX9_slates_186 : decode cX9_slates 186 = .ok (.istore_n 3, 1) := by decide +kernel
theorem dX9_slates_187 : decode cX9_slates 187 = .ok (.iinc 4 (-1), 3) := by decide +kernel
theorem dX9_slates_190 : decode cX9_slates 190 = .ok (.goto (-160), 3) := by decide +kernel
theorem dX9_slates_193 : decode cX9_slates 193 = .ok (.iload_n 1, 1) := by decide +kernel
theorem dX9_slates_194 : decode cX9_slates 194 = .ok (.ifCond .ne 7, 3) := by decide +kernel
theorem dX9_slates_197 : decode cX9_slates 197 = .ok (.iload_n 2, 1) := by decide +kernel
theorem dX9_slates_198 : decode cX9_slates 198 = .ok (.goto 4, 3) := by decide +kernel
theorem dX9_slates_201 : decode cX9_slates 201 = .ok (.iload_n 3, 1) := by decide +kernel
theorem dX9_slates_202 : decode cX9_slates 202 = .ok (.ireturn, 1) := by decide +kernel
set_option maxRecDepth 20000 in
theorem ggX9_washed_X9_findRounds : GoodIn wsX9_washed wsX9_findRounds := goodIn_r _ [7, 8, 9, 10, 11, 12, 2, 13, 14, 15, 16, 17, 18, 19, 6, 20, 1, 21, 22, 23, 24, 25, 26, 27, 28, 29, 30, 31, 32, 33, 34, 35, 36, 37, 38, 39, 40, 41, 42, 43, 44, 45, 46, 47, 48, 49, 50, 51, 52, 53, 54, 55, 56, 57, 58, 73, 74, 75, 76, 77, 78, 79, 80, 81, 82, 83, 84, 85, 86, 87, 88, 89, 90, 91, 92, 93, 94, 95, 96, 97, 98, 99, 100, 101, 102, 103, 104, 105, 106, 107, 108] (by decide +kernel) (by decide +kernel)
set_option maxRecDepth 20000 in
theorem gX9_washed_X9_findRounds : GoodIn wsX9_washed (wsV RX9 209 RX9 yX9_findRounds wsX9_findRounds) := goodIn_app (goodIn_of _ (by decide +kernel)) ggX9_washed_X9_findRounds
set_option maxRecDepth 20000 in
theorem ggX9_washed_X9_isWoken : GoodIn wsX9_washed wsX9_isWoken := goodIn_r _ [62, 63, 64, 65, 66, 67, 6, 68, 1, 23, 24, 25, 69, 70, 71, 72, 16, 73, 74, 75, 76, 77, 78, 79, 80, 81, 82, 83, 84, 85, 86, 87, 88, 89, 90, 91, 92, 93, 94, 95, 96, 97, 98, 99, 100, 101, 102, 103, 104, 105, 106, 107, 108] (by decide +kernel) (by decide +kernel)
set_option maxRecDepth 20000 in
theorem gX9_washed_X9_isWoken : GoodIn wsX9_washed (wsV RX9 232 RX9 yX9_isWoken wsX9_isWoken) := goodIn_app (goodIn_of _ (by decide +kernel)) ggX9_washed_X9_isWoken
theorem dX9_washed_0 : decode cX9_washed 0 = .ok (.aload_n 0, 1) := by decide +kernel
theorem dX9_washed_1 : decode cX9_washed 1 = .ok (.aload_n 0, 1) := by decide +kernel
theorem dX9_washed_2 : decode cX9_washed 2 = .ok (.getfield 22, 3) := by decide +kernel
theorem dX9_washed_5 : decode cX9_washed 5 = .ok (.iconst 0, 1) := by decide +kernel
theorem dX9_washed_6 : decode cX9_washed 6 = .ok (.iaload, 1) := by decide +kernel
theorem dX9_washed_7 : decode cX9_washed 7 = .ok (.invokevirtual 209, 3) := by decide +kernel
theorem dX9_washed_10 : decode cX9_washed 10 = .ok (.iconst 0, 1) := by decide +kernel
theorem dX9_washed_11 : decode cX9_washed 11 = .ok (.istore_n 1, 1) := by decide +kernel
theorem dX9_washed_12 : decode cX9_washed 12 = .ok (.iconst 0, 1) := by decide +kernel
theorem dX9_washed_13 : decode cX9_washed 13 = .ok (.istore_n 2, 1) := by decide +kernel
theorem dX9_washed_14 : decode cX9_washed 14 = .ok (.iload_n 2, 1) := by decide +kernel
theorem dX9_washed_15 : decode cX9_washed 15 = .ok (.aload_n 0, 1) := by decide +kernel
theorem dX9_washed_16 : decode cX9_washed 16 = .ok (.getfield 197, 3) := by decide +kernel
theorem dX9_washed_19 : decode cX9_washed 19 = .ok (.if_icmp .ge 25, 3) := by decide +kernel
theorem dX9_washed_22 : decode cX9_washed 22 = .ok (.iload_n 1, 1) := by decide +kernel
theorem dX9_washed_23 : decode cX9_washed 23 = .ok (.aload_n 0, 1) := by decide +kernel
theorem dX9_washed_24 : decode cX9_washed 24 = .ok (.iload_n 2, 1) := by decide +kernel
theorem dX9_washed_25 : decode cX9_washed 25 = .ok (.invokevirtual 232, 3) := by decide +kernel
theorem dX9_washed_28 : decode cX9_washed 28 = .ok (.ifCond .eq 7, 3) := by decide +kernel
theorem dX9_washed_31 : decode cX9_washed 31 = .ok (.iconst 1, 1) := by decide +kernel
theorem dX9_washed_32 : decode cX9_washed 32 = .ok (.goto 4, 3) := by decide +kernel
theorem dX9_washed_35 : decode cX9_washed 35 = .ok (.iconst 0, 1) := by decide +kernel
theorem dX9_washed_36 : decode cX9_washed 36 = .ok (.iadd, 1) := by decide +kernel
theorem dX9_washed_37 : decode cX9_washed 37 = .ok (.istore_n 1, 1) := by decide +kernel
theorem dX9_washed_38 : decode cX9_washed 38 = .ok (.iinc 2 1, 3) := by decide +kernel
theorem dX9_washed_41 : decode cX9_washed 41 = .ok (.goto (-27), 3) := by decide +kernel
theorem dX9_washed_44 : decode cX9_washed 44 = .ok (.iload_n 1, 1) := by decide +kernel
theorem dX9_washed_45 : decode cX9_washed 45 = .ok (.ireturn, 1) := by decide +kernel
set_option maxRecDepth 20000 in
theorem ggX9_endsWith_X9_has : GoodIn wsX9_endsWith wsX9_has := goodIn_r _ [7] (by decide +kernel) (by decide +kernel)
set_option maxRecDepth 20000 in
theorem gX9_endsWith_X9_has : GoodIn wsX9_endsWith (va_wsS RX9 104 yX9_has wsX9_has) := goodIn_app (goodIn_of _ (by decide +kernel)) ggX9_endsWith_X9_has
set_option maxRecDepth 20000 in
theorem ggX9_endsWith_X9_wakes : GoodIn wsX9_endsWith wsX9_wakes := goodIn_r _ [11, 12, 3, 13, 14, 15, 16, 17, 18, 19, 20, 21, 22, 23, 24, 25, 26, 27, 28, 29, 30, 31, 32, 33, 34, 35, 36, 37, 38, 39, 40, 41, 42, 43, 44, 45, 46, 47, 48] (by decide +kernel) (by decide +kernel)
set_option maxRecDepth 20000 in
theorem gX9_endsWith_X9_wakes : GoodIn wsX9_endsWith (wsV RX9 163 RX9 yX9_wakes wsX9_wakes) := goodIn_app (goodIn_of _ (by decide +kernel)) ggX9_endsWith_X9_wakes
theorem dX9_endsWith_0 : decode cX9_endsWith 0 = .ok (.iconst 0, 1) := by decide +kernel
theorem dX9_endsWith_1 : decode cX9_endsWith 1 = .ok (.istore_n 2, 1) := by decide +kernel
theorem dX9_endsWith_2 : decode cX9_endsWith 2 = .ok (.aload_n 0, 1) := by decide +kernel
theorem dX9_endsWith_3 : decode cX9_endsWith 3 = .ok (.getfield 148, 3) := by decide +kernel
theorem dX9_endsWith_6 : decode cX9_endsWith 6 = .ok (.istore_n 3, 1) := by decide +kernel
theorem dX9_endsWith_7 : decode cX9_endsWith 7 = .ok (.iconst 0, 1) := by decide +kernel
theorem dX9_endsWith_8 : decode cX9_endsWith 8 = .ok (.istore 4, 2) := by decide +kernel
theorem dX9_endsWith_10 : decode cX9_endsWith 10 = .ok (.iload 4, 2) := by decide +kernel
theorem dX9_endsWith_12 : decode cX9_endsWith 12 = .ok (.aload_n 0, 1) := by decide +kernel
theorem dX9_endsWith_13 : decode cX9_endsWith 13 = .ok (.getfield 97, 3) := by decide +kernel
theorem dX9_endsWith_16 : decode cX9_endsWith 16 = .ok (.if_icmp .ge 54, 3) := by decide +kernel
theorem dX9_endsWith_19 : decode cX9_endsWith 19 = .ok (.iload_n 1, 1) := by decide +kernel
theorem dX9_endsWith_20 : decode cX9_endsWith 20 = .ok (.iload 4, 2) := by decide +kernel
theorem dX9_endsWith_22 : decode cX9_endsWith 22 = .ok (.invokestatic 104, 3) := by decide +kernel
theorem dX9_endsWith_25 : decode cX9_endsWith 25 = .ok (.ifCond .eq 39, 3) := by decide +kernel
theorem dX9_endsWith_28 : decode cX9_endsWith 28 = .ok (.aload_n 0, 1) := by decide +kernel
theorem dX9_endsWith_29 : decode cX9_endsWith 29 = .ok (.getfield 22, 3) := by decide +kernel
theorem dX9_endsWith_32 : decode cX9_endsWith 32 = .ok (.iconst 2, 1) := by decide +kernel
theorem dX9_endsWith_33 : decode cX9_endsWith 33 = .ok (.iload 4, 2) := by decide +kernel
theorem dX9_endsWith_35 : decode cX9_endsWith 35 = .ok (.iadd, 1) := by decide +kernel
theorem dX9_endsWith_36 : decode cX9_endsWith 36 = .ok (.iaload, 1) := by decide +kernel
theorem dX9_endsWith_37 : decode cX9_endsWith 37 = .ok (.iload_n 2, 1) := by decide +kernel
theorem dX9_endsWith_38 : decode cX9_endsWith 38 = .ok (.if_icmp .le 15, 3) := by decide +kernel
theorem dX9_endsWith_41 : decode cX9_endsWith 41 = .ok (.aload_n 0, 1) := by decide +kernel
theorem dX9_endsWith_42 : decode cX9_endsWith 42 = .ok (.getfield 22, 3) := by decide +kernel
theorem dX9_endsWith_45 : decode cX9_endsWith 45 = .ok (.iconst 2, 1) := by decide +kernel
theorem dX9_endsWith_46 : decode cX9_endsWith 46 = .ok (.iload 4, 2) := by decide +kernel
theorem dX9_endsWith_48 : decode cX9_endsWith 48 = .ok (.iadd, 1) := by decide +kernel
theorem dX9_endsWith_49 : decode cX9_endsWith 49 = .ok (.iaload, 1) := by decide +kernel
theorem dX9_endsWith_50 : decode cX9_endsWith 50 = .ok (.goto 4, 3) := by decide +kernel
theorem dX9_endsWith_53 : decode cX9_endsWith 53 = .ok (.iload_n 2, 1) := by decide +kernel
theorem dX9_endsWith_54 : decode cX9_endsWith 54 = .ok (.istore_n 2, 1) := by decide +kernel
theorem dX9_endsWith_55 : decode cX9_endsWith 55 = .ok (.iload_n 3, 1) := by decide +kernel
theorem dX9_endsWith_56 : decode cX9_endsWith 56 = .ok (.aload_n 0, 1) := by decide +kernel
theorem dX9_endsWith_57 : decode cX9_endsWith 57 = .ok (.iload 4, 2) := by decide +kernel
theorem dX9_endsWith_59 : decode cX9_endsWith 59 = .ok (.invokevirtual 163, 3) := by decide +kernel
theorem dX9_endsWith_62 : decode cX9_endsWith 62 = .ok (.iadd, 1) := by decide +kernel
theorem dX9_endsWith_63 : decode cX9_endsWith 63 = .ok (.istore_n 3, 1) := by decide +kernel
theorem dX9_endsWith_64 : decode cX9_endsWith 64 = .ok (.iinc 4 1, 3) := by decide +kernel
theorem dX9_endsWith_67 : decode cX9_endsWith 67 = .ok (.goto (-57), 3) := by decide +kernel
theorem dX9_endsWith_70 : decode cX9_endsWith 70 = .ok (.iload_n 3, 1) := by decide +kernel
theorem dX9_endsWith_71 : decode cX9_endsWith 71 = .ok (.iload_n 2, 1) := by decide +kernel
theorem dX9_endsWith_72 : decode cX9_endsWith 72 = .ok (.iadd, 1) := by decide +kernel
theorem dX9_endsWith_73 : decode cX9_endsWith 73 = .ok (.ireturn, 1) := by decide +kernel
set_option maxRecDepth 20000 in
theorem ggX9_two_X9_in : GoodIn wsX9_two wsX9_in := goodIn_r _ [6] (by decide +kernel) (by decide +kernel)
set_option maxRecDepth 20000 in
theorem gX9_two_X9_in : GoodIn wsX9_two (va_wsS RX9 100 yX9_in wsX9_in) := goodIn_app (goodIn_of _ (by decide +kernel)) ggX9_two_X9_in
set_option maxRecDepth 20000 in
theorem ggX9_two_X9_endsWith : GoodIn wsX9_two wsX9_endsWith := goodIn_r _ [10, 11, 1, 2, 12, 13, 5, 14, 15, 16, 17, 18, 19, 20, 21, 22, 23, 24, 25, 26, 27, 28, 29, 30, 31, 32, 33, 34, 35, 36, 37, 38, 39, 40, 41, 42, 43, 44, 45, 46, 47, 48, 49, 50, 51, 52, 53, 54, 55] (by decide +kernel) (by decide +kernel)
set_option maxRecDepth 20000 in
theorem gX9_two_X9_endsWith : GoodIn wsX9_two (wsV RX9 235 RX9 yX9_endsWith wsX9_endsWith) := goodIn_app (goodIn_of _ (by decide +kernel)) ggX9_two_X9_endsWith
theorem dX9_two_0 : decode cX9_two 0 = .ok (.iload_n 1, 1) := by decide +kernel
theorem dX9_two_1 : decode cX9_two 1 = .ok (.iconst 0, 1) := by decide +kernel
theorem dX9_two_2 : decode cX9_two 2 = .ok (.iconst 1, 1) := by decide +kernel
theorem dX9_two_3 : decode cX9_two 3 = .ok (.invokestatic 100, 3) := by decide +kernel
theorem dX9_two_6 : decode cX9_two 6 = .ok (.ifCond .ne 5, 3) := by decide +kernel
theorem dX9_two_9 : decode cX9_two 9 = .ok (.iconst (-1), 1) := by decide +kernel
theorem dX9_two_10 : decode cX9_two 10 = .ok (.ireturn, 1) := by decide +kernel
theorem dX9_two_11 : decode cX9_two 11 = .ok (.iconst (-1), 1) := by decide +kernel
theorem dX9_two_12 : decode cX9_two 12 = .ok (.istore_n 2, 1) := by decide +kernel
theorem dX9_two_13 : decode cX9_two 13 = .ok (.iconst 0, 1) := by decide +kernel
theorem dX9_two_14 : decode cX9_two 14 = .ok (.istore_n 3, 1) := by decide +kernel
theorem dX9_two_15 : decode cX9_two 15 = .ok (.iconst 0, 1) := by decide +kernel
theorem dX9_two_16 : decode cX9_two 16 = .ok (.istore 4, 2) := by decide +kernel
theorem dX9_two_18 : decode cX9_two 18 = .ok (.iload 4, 2) := by decide +kernel
theorem dX9_two_20 : decode cX9_two 20 = .ok (.iconst 1, 1) := by decide +kernel
theorem dX9_two_21 : decode cX9_two 21 = .ok (.aload_n 0, 1) := by decide +kernel
theorem dX9_two_22 : decode cX9_two 22 = .ok (.getfield 97, 3) := by decide +kernel
theorem dX9_two_25 : decode cX9_two 25 = .ok (.ishl, 1) := by decide +kernel
theorem dX9_two_26 : decode cX9_two 26 = .ok (.if_icmp .ge 105, 3) := by decide +kernel
theorem dX9_two_29 : decode cX9_two 29 = .ok (.iload 4, 2) := by decide +kernel
theorem dX9_two_31 : decode cX9_two 31 = .ok (.aload_n 0, 1) := by decide +kernel
theorem dX9_two_32 : decode cX9_two 32 = .ok (.getfield 22, 3) := by decide +kernel
theorem dX9_two_35 : decode cX9_two 35 = .ok (.iconst 0, 1) := by decide +kernel
theorem dX9_two_36 : decode cX9_two 36 = .ok (.iaload, 1) := by decide +kernel
theorem dX9_two_37 : decode cX9_two 37 = .ok (.iconst (-1), 1) := by decide +kernel
theorem dX9_two_38 : decode cX9_two 38 = .ok (.ixor, 1) := by decide +kernel
theorem dX9_two_39 : decode cX9_two 39 = .ok (.iand, 1) := by decide +kernel
theorem dX9_two_40 : decode cX9_two 40 = .ok (.ifCond .ne 85, 3) := by decide +kernel
theorem dX9_two_43 : decode cX9_two 43 = .ok (.aload_n 0, 1) := by decide +kernel
theorem dX9_two_44 : decode cX9_two 44 = .ok (.iload 4, 2) := by decide +kernel
theorem dX9_two_46 : decode cX9_two 46 = .ok (.invokevirtual 235, 3) := by decide +kernel
theorem dX9_two_49 : decode cX9_two 49 = .ok (.istore 5, 2) := by decide +kernel
theorem dX9_two_51 : decode cX9_two 51 = .ok (.aload_n 0, 1) := by decide +kernel
theorem dX9_two_52 : decode cX9_two 52 = .ok (.aload_n 0, 1) := by decide +kernel
theorem dX9_two_53 : decode cX9_two 53 = .ok (.getfield 22, 3) := by decide +kernel
theorem dX9_two_56 : decode cX9_two 56 = .ok (.iconst 0, 1) := by decide +kernel
theorem dX9_two_57 : decode cX9_two 57 = .ok (.iaload, 1) := by decide +kernel
theorem dX9_two_58 : decode cX9_two 58 = .ok (.iload 4, 2) := by decide +kernel
theorem dX9_two_60 : decode cX9_two 60 = .ok (.iconst (-1), 1) := by decide +kernel
theorem dX9_two_61 : decode cX9_two 61 = .ok (.ixor, 1) := by decide +kernel
theorem dX9_two_62 : decode cX9_two 62 = .ok (.iand, 1) := by decide +kernel
theorem dX9_two_63 : decode cX9_two 63 = .ok (.invokevirtual 235, 3) := by decide +kernel
theorem dX9_two_66 : decode cX9_two 66 = .ok (.istore 6, 2) := by decide +kernel
theorem dX9_two_68 : decode cX9_two 68 = .ok (.iload 5, 2) := by decide +kernel
theorem dX9_two_70 : decode cX9_two 70 = .ok (.iload 6, 2) := by decide +kernel
theorem dX9_two_72 : decode cX9_two 72 = .ok (.if_icmp .le 8, 3) := by decide +kernel
theorem dX9_two_75 : decode cX9_two 75 = .ok (.iload 5, 2) := by decide +kernel
theorem dX9_two_77 : decode cX9_two 77 = .ok (.goto 5, 3) := by decide +kernel
theorem dX9_two_80 : decode cX9_two 80 = .ok (.iload 6, 2) := by decide +kernel
theorem dX9_two_82 : decode cX9_two 82 = .ok (.istore 7, 2) := by decide +kernel
theorem dX9_two_84 : decode cX9_two 84 = .ok (.iload_n 2, 1) := by decide +kernel
theorem dX9_two_85 : decode cX9_two 85 = .ok (.ifCond .lt 9, 3) := by decide +kernel
theorem dX9_two_88 : decode cX9_two 88 = .ok (.iload 7, 2) := by decide +kernel
theorem dX9_two_90 : decode cX9_two 90 = .ok (.iload_n 3, 1) := by decide +kernel
theorem dX9_two_91 : decode cX9_two 91 = .ok (.if_icmp .ge 7, 3) := by decide +kernel
theorem dX9_two_94 : decode cX9_two 94 = .ok (.iconst 1, 1) := by decide +kernel
theorem dX9_two_95 : decode cX9_two 95 = .ok (.goto 4, 3) := by decide +kernel
theorem dX9_two_98 : decode cX9_two 98 = .ok (.iconst 0, 1) := by decide +kernel
theorem dX9_two_99 : decode cX9_two 99 = .ok (.istore 8, 2) := by decide +kernel
theorem dX9_two_101 : decode cX9_two 101 = .ok (.iload 8, 2) := by decide +kernel
theorem dX9_two_103 : decode cX9_two 103 = .ok (.ifCond .eq 8, 3) := by decide +kernel
theorem dX9_two_106 : decode cX9_two 106 = .ok (.iload 4, 2) := by decide +kernel
theorem dX9_two_108 : decode cX9_two 108 = .ok (.goto 4, 3) := by decide +kernel
theorem dX9_two_111 : decode cX9_two 111 = .ok (.iload_n 2, 1) := by decide +kernel
theorem dX9_two_112 : decode cX9_two 112 = .ok (.istore_n 2, 1) := by decide +kernel
theorem dX9_two_113 : decode cX9_two 113 = .ok (.iload 8, 2) := by decide +kernel
theorem dX9_two_115 : decode cX9_two 115 = .ok (.ifCond .eq 8, 3) := by decide +kernel
theorem dX9_two_118 : decode cX9_two 118 = .ok (.iload 7, 2) := by decide +kernel
theorem dX9_two_120 : decode cX9_two 120 = .ok (.goto 4, 3) := by decide +kernel
theorem dX9_two_123 : decode cX9_two 123 = .ok (.iload_n 3, 1) := by decide +kernel
theorem dX9_two_124 : decode cX9_two 124 = .ok (.istore_n 3, 1) := by decide +kernel
theorem dX9_two_125 : decode cX9_two 125 = .ok (.iinc 4 1, 3) := by decide +kernel
theorem dX9_two_128 : decode cX9_two 128 = .ok (.goto (-110), 3) := by decide +kernel
theorem dX9_two_131 : decode cX9_two 131 = .ok (.iload_n 1, 1) := by decide +kernel
theorem dX9_two_132 : decode cX9_two 132 = .ok (.ifCond .ne 7, 3) := by decide +kernel
theorem dX9_two_135 : decode cX9_two 135 = .ok (.iload_n 3, 1) := by decide +kernel
theorem dX9_two_136 : decode cX9_two 136 = .ok (.goto 4, 3) := by decide +kernel
theorem dX9_two_139 : decode cX9_two 139 = .ok (.iload_n 2, 1) := by decide +kernel
theorem dX9_two_140 : decode cX9_two 140 = .ok (.ireturn, 1) := by decide +kernel
set_option maxRecDepth 20000 in
theorem ggX9_overslept_X9_isGuest : GoodIn wsX9_overslept wsX9_isGuest := goodIn_r _ [6, 1, 7, 8, 5, 9, 34, 35, 36, 37, 38, 39, 40, 41, 42, 43, 44, 45, 46, 47, 48, 49, 50, 51, 52, 53, 54, 55, 56, 57, 58, 59, 60, 61, 62, 63, 64, 65, 66, 67, 68, 69] (by decide +kernel) (by decide +kernel)
set_option maxRecDepth 20000 in
theorem gX9_overslept_X9_isGuest : GoodIn wsX9_overslept (wsV RX9 160 RX9 yX9_isGuest wsX9_isGuest) := goodIn_app (goodIn_of _ (by decide +kernel)) ggX9_overslept_X9_isGuest
set_option maxRecDepth 20000 in
theorem ggX9_overslept_X9_in : GoodIn wsX9_overslept wsX9_in := goodIn_r _ [9] (by decide +kernel) (by decide +kernel)
set_option maxRecDepth 20000 in
theorem gX9_overslept_X9_in : GoodIn wsX9_overslept (va_wsS RX9 100 yX9_in wsX9_in) := goodIn_app (goodIn_of _ (by decide +kernel)) ggX9_overslept_X9_in
set_option maxRecDepth 20000 in
theorem ggX9_overslept_X9_isHere : GoodIn wsX9_overslept wsX9_isHere := goodIn_r _ [13, 14, 15, 16, 5, 17, 34, 35, 36, 37, 38, 39, 40, 41, 42, 43, 44, 45, 46, 47, 48, 49, 50, 51, 52, 53, 54, 55, 56, 57, 58, 59, 60, 61, 62, 63, 64, 65, 66, 67, 68, 69] (by decide +kernel) (by decide +kernel)
set_option maxRecDepth 20000 in
theorem gX9_overslept_X9_isHere : GoodIn wsX9_overslept (wsV RX9 222 RX9 yX9_isHere wsX9_isHere) := goodIn_app (goodIn_of _ (by decide +kernel)) ggX9_overslept_X9_isHere
set_option maxRecDepth 20000 in
theorem ggX9_overslept_X9_hangsOn : GoodIn wsX9_overslept wsX9_hangsOn := goodIn_r _ [21, 14, 22, 23, 24, 25, 26, 27, 28, 5, 29, 15, 16, 17, 30, 31, 32, 33, 34, 35, 36, 37, 38, 39, 40, 41, 42, 43, 44, 45, 46, 47, 48, 49, 50, 51, 52, 53, 54, 55, 56, 57, 58, 59, 60, 61, 62, 63, 64, 65, 66, 67, 68, 69] (by decide +kernel) (by decide +kernel)
set_option maxRecDepth 20000 in
theorem gX9_overslept_X9_hangsOn : GoodIn wsX9_overslept (wsV RX9 229 RX9 yX9_hangsOn wsX9_hangsOn) := goodIn_app (goodIn_of _ (by decide +kernel)) ggX9_overslept_X9_hangsOn
set_option maxRecDepth 20000 in
theorem ggX9_overslept_X9_has : GoodIn wsX9_overslept wsX9_has := goodIn_r _ [17] (by decide +kernel) (by decide +kernel)
set_option maxRecDepth 20000 in
theorem gX9_overslept_X9_has : GoodIn wsX9_overslept (va_wsS RX9 104 yX9_has wsX9_has) := goodIn_app (goodIn_of _ (by decide +kernel)) ggX9_overslept_X9_has
theorem dX9_overslept_0 : decode cX9_overslept 0 = .ok (.aload_n 0, 1) := by decide +kernel
theorem dX9_overslept_1 : decode cX9_overslept 1 = .ok (.iload_n 1, 1) := by decide +kernel
theorem dX9_overslept_2 : decode cX9_overslept 2 = .ok (.invokevirtual 160, 3) := by decide +kernel
theorem dX9_overslept_5 : decode cX9_overslept 5 = .ok (.ifCond .eq 22, 3) := by decide +kernel
theorem dX9_overslept_8 : decode cX9_overslept 8 = .ok (.iload_n 2, 1) := by decide +kernel
theorem dX9_overslept_9 : decode cX9_overslept 9 = .ok (.iconst 0, 1) := by decide +kernel
theorem dX9_overslept_10 : decode cX9_overslept 10 = .ok (.bipush 10, 2) := by decide +kernel
theorem dX9_overslept_12 : decode cX9_overslept 12 = .ok (.invokestatic 100, 3) := by decide +kernel
theorem dX9_overslept_15 : decode cX9_overslept 15 = .ok (.ifCond .eq 12, 3) := by decide +kernel
theorem dX9_overslept_18 : decode cX9_overslept 18 = .ok (.iload_n 3, 1) := by decide +kernel
theorem dX9_overslept_19 : decode cX9_overslept 19 = .ok (.iconst 0, 1) := by decide +kernel
theorem dX9_overslept_20 : decode cX9_overslept 20 = .ok (.iconst 1, 1) := by decide +kernel
theorem dX9_overslept_21 : decode cX9_overslept 21 = .ok (.invokestatic 100, 3) := by decide +kernel
theorem dX9_overslept_24 : decode cX9_overslept 24 = .ok (.ifCond .ne 5, 3) := by decide +kernel
theorem dX9_overslept_27 : decode cX9_overslept 27 = .ok (.iconst (-1), 1) := by decide +kernel
theorem dX9_overslept_28 : decode cX9_overslept 28 = .ok (.ireturn, 1) := by decide +kernel
theorem dX9_overslept_29 : decode cX9_overslept 29 = .ok (.aload_n 0, 1) := by decide +kernel
theorem dX9_overslept_30 : decode cX9_overslept 30 = .ok (.iload_n 1, 1) := by decide +kernel
theorem dX9_overslept_31 : decode cX9_overslept 31 = .ok (.invokevirtual 222, 3) := by decide +kernel
theorem dX9_overslept_34 : decode cX9_overslept 34 = .ok (.ifCond .ne 6, 3) := by decide +kernel
theorem dX9_overslept_37 : decode cX9_overslept 37 = .ok (.bipush (-2), 2) := by decide +kernel
theorem dX9_overslept_39 : decode cX9_overslept 39 = .ok (.ireturn, 1) := by decide +kernel
theorem dX9_overslept_40 : decode cX9_overslept 40 = .ok (.bipush 10, 2) := by decide +kernel
theorem dX9_overslept_42 : decode cX9_overslept 42 = .ok (.iload_n 2, 1) := by decide +kernel
theorem dX9_overslept_43 : decode cX9_overslept 43 = .ok (.isub, 1) := by decide +kernel
theorem dX9_overslept_44 : decode cX9_overslept 44 = .ok (.istore 4, 2) := by decide +kernel
theorem dX9_overslept_46 : decode cX9_overslept 46 = .ok (.bipush 10, 2) := by decide +kernel
theorem dX9_overslept_48 : decode cX9_overslept 48 = .ok (.istore 5, 2) := by decide +kernel
theorem dX9_overslept_50 : decode cX9_overslept 50 = .ok (.iconst 0, 1) := by decide +kernel
theorem dX9_overslept_51 : decode cX9_overslept 51 = .ok (.istore 6, 2) := by decide +kernel
theorem dX9_overslept_53 : decode cX9_overslept 53 = .ok (.iload 6, 2) := by decide +kernel
theorem dX9_overslept_55 : decode cX9_overslept 55 = .ok (.aload_n 0, 1) := by decide +kernel
theorem dX9_overslept_56 : decode cX9_overslept 56 = .ok (.getfield 97, 3) := by decide +kernel
theorem dX9_overslept_59 : decode cX9_overslept 59 = .ok (.if_icmp .ge 78, 3) := by decide +kernel
theorem dX9_overslept_62 : decode cX9_overslept 62 = .ok (.iload 6, 2) := by decide +kernel
theorem dX9_overslept_64 : decode cX9_overslept 64 = .ok (.iload_n 1, 1) := by decide +kernel
theorem dX9_overslept_65 : decode cX9_overslept 65 = .ok (.if_icmp .eq 29, 3) := by decide +kernel
theorem dX9_overslept_68 : decode cX9_overslept 68 = .ok (.aload_n 0, 1) := by decide +kernel
theorem dX9_overslept_69 : decode cX9_overslept 69 = .ok (.iload 6, 2) := by decide +kernel
theorem dX9_overslept_71 : decode cX9_overslept 71 = .ok (.invokevirtual 222, 3) := by decide +kernel
theorem dX9_overslept_74 : decode cX9_overslept 74 = .ok (.ifCond .eq 20, 3) := by decide +kernel
theorem dX9_overslept_77 : decode cX9_overslept 77 = .ok (.aload_n 0, 1) := by decide +kernel
theorem dX9_overslept_78 : decode cX9_overslept 78 = .ok (.iload 6, 2) := by decide +kernel
theorem dX9_overslept_80 : decode cX9_overslept 80 = .ok (.invokevirtual 229, 3) := by decide +kernel
theorem dX9_overslept_83 : decode cX9_overslept 83 = .ok (.iload_n 1, 1) := by decide +kernel
theorem dX9_overslept_84 : decode cX9_overslept 84 = .ok (.invokestatic 104, 3) := by decide +kernel
theorem dX9_overslept_87 : decode cX9_overslept 87 = .ok (.ifCond .eq 7, 3) := by decide +kernel
theorem dX9_overslept_90 : decode cX9_overslept 90 = .ok (.iconst 1, 1) := by decide +kernel
theorem dX9_overslept_91 : decode cX9_overslept 91 = .ok (.goto 4, 3) := by decide +kernel
theorem dX9_overslept_94 : decode cX9_overslept 94 = .ok (.iconst 0, 1) := by decide +kernel
theorem dX9_overslept_95 : decode cX9_overslept 95 = .ok (.istore 7, 2) := by decide +kernel
theorem dX9_overslept_97 : decode cX9_overslept 97 = .ok (.iload 4, 2) := by decide +kernel
theorem dX9_overslept_99 : decode cX9_overslept 99 = .ok (.iload 7, 2) := by decide +kernel
theorem dX9_overslept_101 : decode cX9_overslept 101 = .ok (.ifCond .eq 10, 3) := by decide +kernel
theorem dX9_overslept_104 : decode cX9_overslept 104 = .ok (.bipush 10, 2) := by decide +kernel
theorem dX9_overslept_106 : decode cX9_overslept 106 = .ok (.iload_n 2, 1) := by decide +kernel
theorem dX9_overslept_107 : decode cX9_overslept 107 = .ok (.isub, 1) := by decide +kernel
theorem dX9_overslept_108 : decode cX9_overslept 108 = .ok (.goto 4, 3) := by decide +kernel
theorem dX9_overslept_111 : decode cX9_overslept 111 = .ok (.iconst 1, 1) := by decide +kernel
theorem dX9_overslept_112 : decode cX9_overslept 112 = .ok (.imul, 1) := by decide +kernel
theorem dX9_overslept_113 : decode cX9_overslept 113 = .ok (.istore 4, 2) := by decide +kernel
theorem dX9_overslept_115 : decode cX9_overslept 115 = .ok (.iload 5, 2) := by decide +kernel
theorem dX9_overslept_117 : decode cX9_overslept 117 = .ok (.iload 7, 2) := by decide +kernel
theorem dX9_overslept_119 : decode cX9_overslept 119 = .ok (.ifCond .eq 8, 3) := by decide +kernel
theorem dX9_overslept_122 : decode cX9_overslept 122 = .ok (.bipush 10, 2) := by decide +kernel
theorem dX9_overslept_124 : decode cX9_overslept 124 = .ok (.goto 4, 3) := by decide +kernel
theorem dX9_overslept_127 : decode cX9_overslept 127 = .ok (.iconst 1, 1) := by decide +kernel
theorem dX9_overslept_128 : decode cX9_overslept 128 = .ok (.imul, 1) := by decide +kernel
theorem dX9_overslept_129 : decode cX9_overslept 129 = .ok (.istore 5, 2) := by decide +kernel
theorem dX9_overslept_131 : decode cX9_overslept 131 = .ok (.iinc 6 1, 3) := by decide +kernel
theorem dX9_overslept_134 : decode cX9_overslept 134 = .ok (.goto (-81), 3) := by decide +kernel
theorem dX9_overslept_137 : decode cX9_overslept 137 = .ok (.iload 4, 2) := by decide +kernel
theorem dX9_overslept_139 : decode cX9_overslept 139 = .ok (.istore 6, 2) := by decide +kernel
theorem dX9_overslept_141 : decode cX9_overslept 141 = .ok (.iload 5, 2) := by decide +kernel
theorem dX9_overslept_143 : decode cX9_overslept 143 = .ok (.istore 7, 2) := by decide +kernel
theorem dX9_overslept_145 : decode cX9_overslept 145 = .ok (.iload 7, 2) := by decide +kernel
theorem dX9_overslept_147 : decode cX9_overslept 147 = .ok (.ifCond .le 21, 3) := by decide +kernel
theorem dX9_overslept_150 : decode cX9_overslept 150 = .ok (.iload 6, 2) := by decide +kernel
theorem dX9_overslept_152 : decode cX9_overslept 152 = .ok (.iload 7, 2) := by decide +kernel
theorem dX9_overslept_154 : decode cX9_overslept 154 = .ok (.irem, 1) := by decide +kernel
theorem dX9_overslept_155 : decode cX9_overslept 155 = .ok (.istore 8, 2) := by decide +kernel
theorem dX9_overslept_157 : decode cX9_overslept 157 = .ok (.iload 7, 2) := by decide +kernel
theorem dX9_overslept_159 : decode cX9_overslept 159 = .ok (.istore 6, 2) := by decide +kernel
theorem dX9_overslept_161 : decode cX9_overslept 161 = .ok (.iload 8, 2) := by decide +kernel
theorem dX9_overslept_163 : decode cX9_overslept 163 = .ok (.istore 7, 2) := by decide +kernel
theorem dX9_overslept_165 : decode cX9_overslept 165 = .ok (.goto (-20), 3) := by decide +kernel
theorem dX9_overslept_168 : decode cX9_overslept 168 = .ok (.iload_n 3, 1) := by decide +kernel
theorem dX9_overslept_169 : decode cX9_overslept 169 = .ok (.ifCond .ne 8, 3) := by decide +kernel
theorem dX9_overslept_172 : decode cX9_overslept 172 = .ok (.iload 4, 2) := by decide +kernel
theorem dX9_overslept_174 : decode cX9_overslept 174 = .ok (.goto 5, 3) := by decide +kernel
theorem dX9_overslept_177 : decode cX9_overslept 177 = .ok (.iload 5, 2) := by decide +kernel
theorem dX9_overslept_179 : decode cX9_overslept 179 = .ok (.iload 6, 2) := by decide +kernel
theorem dX9_overslept_181 : decode cX9_overslept 181 = .ok (.idiv, 1) := by decide +kernel
theorem dX9_overslept_182 : decode cX9_overslept 182 = .ok (.ireturn, 1) := by decide +kernel
set_option maxRecDepth 20000 in
theorem ggX9_dawn_X9_in : GoodIn wsX9_dawn wsX9_in := goodIn_r _ [11] (by decide +kernel) (by decide +kernel)
set_option maxRecDepth 20000 in
theorem gX9_dawn_X9_in : GoodIn wsX9_dawn (va_wsS RX9 100 yX9_in wsX9_in) := goodIn_app (goodIn_of _ (by decide +kernel)) ggX9_dawn_X9_in
set_option maxRecDepth 20000 in
theorem ggX9_dawn_X9_findRounds : GoodIn wsX9_dawn wsX9_findRounds := goodIn_r _ [15, 16, 17, 18, 6, 19, 20, 7, 21, 22, 23, 24, 25, 26, 10, 27, 5, 28, 29, 30, 31, 32, 33, 34, 35, 36, 37, 38, 39, 40, 41, 42, 43, 44, 45, 46, 47, 48, 49, 50, 51, 52, 53, 54, 55, 56, 57, 58, 59, 60, 61, 62, 63, 64, 65, 74, 75, 76, 77, 78, 79, 80, 81, 82, 83, 84, 85, 86, 87, 88, 89, 90, 91, 92, 93, 94, 95, 96, 97, 98, 99, 100, 101, 102, 103, 104, 105, 106, 107, 108, 109] (by decide +kernel) (by decide +kernel)
set_option maxRecDepth 20000 in
theorem gX9_dawn_X9_findRounds : GoodIn wsX9_dawn (wsV RX9 209 RX9 yX9_findRounds wsX9_findRounds) := goodIn_app (goodIn_of _ (by decide +kernel)) ggX9_dawn_X9_findRounds
set_option maxRecDepth 20000 in
theorem ggX9_dawn_X9_soonestRound : GoodIn wsX9_dawn wsX9_soonestRound := goodIn_r _ [69, 20, 7, 70, 71, 72, 10, 73, 21, 17, 74, 75, 76, 77, 78, 79, 80, 81, 82, 83, 84, 85, 86, 87, 88, 89, 90, 91, 92, 93, 94, 95, 96, 97, 98, 99, 100, 101, 102, 103, 104, 105, 106, 107, 108, 109] (by decide +kernel) (by decide +kernel)
set_option maxRecDepth 20000 in
theorem gX9_dawn_X9_soonestRound : GoodIn wsX9_dawn (wsV RX9 216 RX9 yX9_soonestRound wsX9_soonestRound) := goodIn_app (goodIn_of _ (by decide +kernel)) ggX9_dawn_X9_soonestRound
theorem dX9_dawn_0 : decode cX9_dawn 0 = .ok (.iload_n 1, 1) := by decide +kernel
theorem dX9_dawn_1 : decode cX9_dawn 1 = .ok (.iconst 0, 1) := by decide +kernel
theorem dX9_dawn_2 : decode cX9_dawn 2 = .ok (.sipush 9999, 3) := by decide +kernel
theorem dX9_dawn_5 : decode cX9_dawn 5 = .ok (.invokestatic 100, 3) := by decide +kernel
theorem dX9_dawn_8 : decode cX9_dawn 8 = .ok (.ifCond .eq 22, 3) := by decide +kernel
theorem dX9_dawn_11 : decode cX9_dawn 11 = .ok (.iload_n 2, 1) := by decide +kernel
theorem dX9_dawn_12 : decode cX9_dawn 12 = .ok (.iconst 1, 1) := by decide +kernel
theorem dX9_dawn_13 : decode cX9_dawn 13 = .ok (.bipush 40, 2) := by decide +kernel
theorem dX9_dawn_15 : decode cX9_dawn 15 = .ok (.invokestatic 100, 3) := by decide +kernel
theorem dX9_dawn_18 : decode cX9_dawn 18 = .ok (.ifCond .eq 12, 3) := by decide +kernel
theorem dX9_dawn_21 : decode cX9_dawn 21 = .ok (.iload_n 3, 1) := by decide +kernel
theorem dX9_dawn_22 : decode cX9_dawn 22 = .ok (.iconst 0, 1) := by decide +kernel
theorem dX9_dawn_23 : decode cX9_dawn 23 = .ok (.iconst 1, 1) := by decide +kernel
theorem dX9_dawn_24 : decode cX9_dawn 24 = .ok (.invokestatic 100, 3) := by decide +kernel
theorem dX9_dawn_27 : decode cX9_dawn 27 = .ok (.ifCond .ne 5, 3) := by decide +kernel
theorem dX9_dawn_30 : decode cX9_dawn 30 = .ok (.iconst (-1), 1) := by decide +kernel
theorem dX9_dawn_31 : decode cX9_dawn 31 = .ok (.ireturn, 1) := by decide +kernel
theorem dX9_dawn_32 : decode cX9_dawn 32 = .ok (.iconst 0, 1) := by decide +kernel
theorem dX9_dawn_33 : decode cX9_dawn 33 = .ok (.istore 4, 2) := by decide +kernel
theorem dX9_dawn_35 : decode cX9_dawn 35 = .ok (.iconst 0, 1) := by decide +kernel
theorem dX9_dawn_36 : decode cX9_dawn 36 = .ok (.istore 5, 2) := by decide +kernel
theorem dX9_dawn_38 : decode cX9_dawn 38 = .ok (.iconst 0, 1) := by decide +kernel
theorem dX9_dawn_39 : decode cX9_dawn 39 = .ok (.istore 6, 2) := by decide +kernel
theorem dX9_dawn_41 : decode cX9_dawn 41 = .ok (.iload 6, 2) := by decide +kernel
theorem dX9_dawn_43 : decode cX9_dawn 43 = .ok (.iload_n 2, 1) := by decide +kernel
theorem dX9_dawn_44 : decode cX9_dawn 44 = .ok (.if_icmp .ge 107, 3) := by decide +kernel
theorem dX9_dawn_47 : decode cX9_dawn 47 = .ok (.ldc2_w 238, 3) := by decide +kernel
theorem dX9_dawn_50 : decode cX9_dawn 50 = .ok (.iload_n 1, 1) := by decide +kernel
theorem dX9_dawn_51 : decode cX9_dawn 51 = .ok (.i2l, 1) := by decide +kernel
theorem dX9_dawn_52 : decode cX9_dawn 52 = .ok (.lmul, 1) := by decide +kernel
theorem dX9_dawn_53 : decode cX9_dawn 53 = .ok (.ldc2_w 240, 3) := by decide +kernel
theorem dX9_dawn_56 : decode cX9_dawn 56 = .ok (.iload 6, 2) := by decide +kernel
theorem dX9_dawn_58 : decode cX9_dawn 58 = .ok (.i2l, 1) := by decide +kernel
theorem dX9_dawn_59 : decode cX9_dawn 59 = .ok (.lmul, 1) := by decide +kernel
theorem dX9_dawn_60 : decode cX9_dawn 60 = .ok (.ladd, 1) := by decide +kernel
theorem dX9_dawn_61 : decode cX9_dawn 61 = .ok (.lconst 1, 1) := by decide +kernel
theorem dX9_dawn_62 : decode cX9_dawn 62 = .ok (.ladd, 1) := by decide +kernel
theorem dX9_dawn_63 : decode cX9_dawn 63 = .ok (.lstore 7, 2) := by decide +kernel
theorem dX9_dawn_65 : decode cX9_dawn 65 = .ok (.lload 7, 2) := by decide +kernel
theorem dX9_dawn_67 : decode cX9_dawn 67 = .ok (.lload 7, 2) := by decide +kernel
theorem dX9_dawn_69 : decode cX9_dawn 69 = .ok (.lmul, 1) := by decide +kernel
theorem dX9_dawn_70 : decode cX9_dawn 70 = .ok (.ldc2_w 242, 3) := by decide +kernel
theorem dX9_dawn_73 : decode cX9_dawn 73 = .ok (.lrem, 1) := by decide +kernel
theorem dX9_dawn_74 : decode cX9_dawn 74 = .ok (.ldc2_w 244, 3) := by decide +kernel
theorem dX9_dawn_77 : decode cX9_dawn 77 = .ok (.ldiv, 1) := by decide +kernel
theorem dX9_dawn_78 : decode cX9_dawn 78 = .ok (.l2i, 1) := by decide +kernel
theorem dX9_dawn_79 : decode cX9_dawn 79 = .ok (.istore 9, 2) := by decide +kernel
theorem dX9_dawn_81 : decode cX9_dawn 81 = .ok (.aload_n 0, 1) := by decide +kernel
theorem dX9_dawn_82 : decode cX9_dawn 82 = .ok (.aload_n 0, 1) := by decide +kernel
theorem dX9_dawn_83 : decode cX9_dawn 83 = .ok (.getfield 22, 3) := by decide +kernel
theorem dX9_dawn_86 : decode cX9_dawn 86 = .ok (.iconst 0, 1) := by decide +kernel
theorem dX9_dawn_87 : decode cX9_dawn 87 = .ok (.iaload, 1) := by decide +kernel
theorem dX9_dawn_88 : decode cX9_dawn 88 = .ok (.iconst 1, 1) := by decide +kernel
theorem dX9_dawn_89 : decode cX9_dawn 89 = .ok (.iload 9, 2) := by decide +kernel
theorem dX9_dawn_91 : decode cX9_dawn 91 = .ok (.aload_n 0, 1) := by decide +kernel
theorem dX9_dawn_92 : decode cX9_dawn 92 = .ok (.getfield 97, 3) := by decide +kernel
theorem dX9_dawn_95 : decode cX9_dawn 95 = .ok (.irem, 1) := by decide +kernel
theorem dX9_dawn_96 : decode cX9_dawn 96 = .ok (.ishl, 1) := by decide +kernel
theorem dX9_dawn_97 : decode cX9_dawn 97 = .ok (.iconst (-1), 1) := by decide +kernel
theorem dX9_dawn_98 : decode cX9_dawn 98 = .ok (.ixor, 1) := by decide +kernel
theorem dX9_dawn_99 : decode cX9_dawn 99 = .ok (.iand, 1) := by decide +kernel
theorem dX9_dawn_100 : decode cX9_dawn 100 = .ok (.invokevirtual 209, 3) := by decide +kernel
theorem dX9_dawn_103 : decode cX9_dawn 103 = .ok (.aload_n 0, 1) := by decide +kernel
theorem dX9_dawn_104 : decode cX9_dawn 104 = .ok (.invokevirtual 216, 3) := by decide +kernel
theorem dX9_dawn_107 : decode cX9_dawn 107 = .ok (.istore 10, 2) := by decide +kernel
theorem dX9_dawn_109 : decode cX9_dawn 109 = .ok (.iload 4, 2) := by decide +kernel
theorem dX9_dawn_111 : decode cX9_dawn 111 = .ok (.iload 10, 2) := by decide +kernel
theorem dX9_dawn_113 : decode cX9_dawn 113 = .ok (.ifCond .ge 7, 3) := by decide +kernel
theorem dX9_dawn_116 : decode cX9_dawn 116 = .ok (.iconst 0, 1) := by decide +kernel
theorem dX9_dawn_117 : decode cX9_dawn 117 = .ok (.goto 4, 3) := by decide +kernel
theorem dX9_dawn_120 : decode cX9_dawn 120 = .ok (.iconst 1, 1) := by decide +kernel
theorem dX9_dawn_121 : decode cX9_dawn 121 = .ok (.iadd, 1) := by decide +kernel
theorem dX9_dawn_122 : decode cX9_dawn 122 = .ok (.istore 4, 2) := by decide +kernel
theorem dX9_dawn_124 : decode cX9_dawn 124 = .ok (.iload 5, 2) := by decide +kernel
theorem dX9_dawn_126 : decode cX9_dawn 126 = .ok (.iload 10, 2) := by decide +kernel
theorem dX9_dawn_128 : decode cX9_dawn 128 = .ok (.ifCond .ge 7, 3) := by decide +kernel
theorem dX9_dawn_131 : decode cX9_dawn 131 = .ok (.iconst 0, 1) := by decide +kernel
theorem dX9_dawn_132 : decode cX9_dawn 132 = .ok (.goto 10, 3) := by decide +kernel
theorem dX9_dawn_135 : decode cX9_dawn 135 = .ok (.aload_n 0, 1) := by decide +kernel
theorem dX9_dawn_136 : decode cX9_dawn 136 = .ok (.getfield 61, 3) := by decide +kernel
theorem dX9_dawn_139 : decode cX9_dawn 139 = .ok (.iload 10, 2) := by decide +kernel
theorem dX9_dawn_141 : decode cX9_dawn 141 = .ok (.iaload, 1) := by decide +kernel
theorem dX9_dawn_142 : decode cX9_dawn 142 = .ok (.iadd, 1) := by decide +kernel
theorem dX9_dawn_143 : decode cX9_dawn 143 = .ok (.istore 5, 2) := by decide +kernel
theorem dX9_dawn_145 : decode cX9_dawn 145 = .ok (.iinc 6 1, 3) := by decide +kernel
theorem dX9_dawn_148 : decode cX9_dawn 148 = .ok (.goto (-107), 3) := by decide +kernel
theorem dX9_dawn_151 : decode cX9_dawn 151 = .ok (.iload_n 3, 1) := by decide +kernel
theorem dX9_dawn_152 : decode cX9_dawn 152 = .ok (.ifCond .ne 8, 3) := by decide +kernel
theorem dX9_dawn_155 : decode cX9_dawn 155 = .ok (.iload 4, 2) := by decide +kernel
theorem dX9_dawn_157 : decode cX9_dawn 157 = .ok (.goto 5, 3) := by decide +kernel
theorem dX9_dawn_160 : decode cX9_dawn 160 = .ok (.iload 5, 2) := by decide +kernel
theorem dX9_dawn_162 : decode cX9_dawn 162 = .ok (.ireturn, 1) := by decide +kernel
set_option maxRecDepth 20000 in
theorem ggX9_keep_X9_copy : GoodIn wsX9_keep wsX9_copy := goodIn_r _ [7] (by decide +kernel) (by decide +kernel)
set_option maxRecDepth 20000 in
theorem gX9_keep_X9_copy : GoodIn wsX9_keep (va_wsS RX9 172 yX9_copy wsX9_copy) := goodIn_app (goodIn_of _ (by decide +kernel)) ggX9_keep_X9_copy
theorem dX9_keep_0 : decode cX9_keep 0 = .ok (.aload_n 0, 1) := by decide +kernel
theorem dX9_keep_1 : decode cX9_keep 1 = .ok (.getfield 154, 3) := by decide +kernel
theorem dX9_keep_4 : decode cX9_keep 4 = .ok (.iconst 2, 1) := by decide +kernel
theorem dX9_keep_5 : decode cX9_keep 5 = .ok (.if_icmp .ne 6, 3) := by decide +kernel
theorem dX9_keep_8 : decode cX9_keep 8 = .ok (.bipush (-3), 2) := by decide +kernel
theorem dX9_keep_10 : decode cX9_keep 10 = .ok (.ireturn, 1) := by decide +kernel
theorem dX9_keep_11 : decode cX9_keep 11 = .ok (.aload_n 0, 1) := by decide +kernel
theorem dX9_keep_12 : decode cX9_keep 12 = .ok (.getfield 28, 3) := by decide +kernel
theorem dX9_keep_15 : decode cX9_keep 15 = .ok (.bipush 8, 2) := by decide +kernel
theorem dX9_keep_17 : decode cX9_keep 17 = .ok (.aload_n 0, 1) := by decide +kernel
theorem dX9_keep_18 : decode cX9_keep 18 = .ok (.getfield 154, 3) := by decide +kernel
theorem dX9_keep_21 : decode cX9_keep 21 = .ok (.imul, 1) := by decide +kernel
theorem dX9_keep_22 : decode cX9_keep 22 = .ok (.aload_n 0, 1) := by decide +kernel
theorem dX9_keep_23 : decode cX9_keep 23 = .ok (.getfield 22, 3) := by decide +kernel
theorem dX9_keep_26 : decode cX9_keep 26 = .ok (.iconst 0, 1) := by decide +kernel
theorem dX9_keep_27 : decode cX9_keep 27 = .ok (.invokestatic 172, 3) := by decide +kernel
theorem dX9_keep_30 : decode cX9_keep 30 = .ok (.aload_n 0, 1) := by decide +kernel
theorem dX9_keep_31 : decode cX9_keep 31 = .ok (.dup, 1) := by decide +kernel
theorem dX9_keep_32 : decode cX9_keep 32 = .ok (.getfield 154, 3) := by decide +kernel
theorem dX9_keep_35 : decode cX9_keep 35 = .ok (.iconst 1, 1) := by decide +kernel
theorem dX9_keep_36 : decode cX9_keep 36 = .ok (.iadd, 1) := by decide +kernel
theorem dX9_keep_37 : decode cX9_keep 37 = .ok (.putfield 154, 3) := by decide +kernel
theorem dX9_keep_40 : decode cX9_keep 40 = .ok (.aload_n 0, 1) := by decide +kernel
theorem dX9_keep_41 : decode cX9_keep 41 = .ok (.getfield 154, 3) := by decide +kernel
theorem dX9_keep_44 : decode cX9_keep 44 = .ok (.ireturn, 1) := by decide +kernel
set_option maxRecDepth 20000 in
theorem ggX9_back_X9_copy : GoodIn wsX9_back wsX9_copy := goodIn_r _ [8] (by decide +kernel) (by decide +kernel)
set_option maxRecDepth 20000 in
theorem gX9_back_X9_copy : GoodIn wsX9_back (va_wsS RX9 172 yX9_copy wsX9_copy) := goodIn_app (goodIn_of _ (by decide +kernel)) ggX9_back_X9_copy
theorem dX9_back_0 : decode cX9_back 0 = .ok (.aload_n 0, 1) := by decide +kernel
theorem dX9_back_1 : decode cX9_back 1 = .ok (.getfield 154, 3) := by decide +kernel
theorem dX9_back_4 : decode cX9_back 4 = .ok (.ifCond .ne 6, 3) := by decide +kernel
theorem dX9_back_7 : decode cX9_back 7 = .ok (.bipush (-2), 2) := by decide +kernel
theorem dX9_back_9 : decode cX9_back 9 = .ok (.ireturn, 1) := by decide +kernel
theorem dX9_back_10 : decode cX9_back 10 = .ok (.aload_n 0, 1) := by decide +kernel
theorem dX9_back_11 : decode cX9_back 11 = .ok (.dup, 1) := by decide +kernel
theorem dX9_back_12 : decode cX9_back 12 = .ok (.getfield 154, 3) := by decide +kernel
theorem dX9_back_15 : decode cX9_back 15 = .ok (.iconst 1, 1) := by decide +kernel
theorem dX9_back_16 : decode cX9_back 16 = .ok (.isub, 1) := by decide +kernel
theorem dX9_back_17 : decode cX9_back 17 = .ok (.putfield 154, 3) := by decide +kernel
theorem dX9_back_20 : decode cX9_back 20 = .ok (.aload_n 0, 1) := by decide +kernel
theorem dX9_back_21 : decode cX9_back 21 = .ok (.getfield 22, 3) := by decide +kernel
theorem dX9_back_24 : decode cX9_back 24 = .ok (.iconst 0, 1) := by decide +kernel
theorem dX9_back_25 : decode cX9_back 25 = .ok (.aload_n 0, 1) := by decide +kernel
theorem dX9_back_26 : decode cX9_back 26 = .ok (.getfield 28, 3) := by decide +kernel
theorem dX9_back_29 : decode cX9_back 29 = .ok (.bipush 8, 2) := by decide +kernel
theorem dX9_back_31 : decode cX9_back 31 = .ok (.aload_n 0, 1) := by decide +kernel
theorem dX9_back_32 : decode cX9_back 32 = .ok (.getfield 154, 3) := by decide +kernel
theorem dX9_back_35 : decode cX9_back 35 = .ok (.imul, 1) := by decide +kernel
theorem dX9_back_36 : decode cX9_back 36 = .ok (.invokestatic 172, 3) := by decide +kernel
theorem dX9_back_39 : decode cX9_back 39 = .ok (.aload_n 0, 1) := by decide +kernel
theorem dX9_back_40 : decode cX9_back 40 = .ok (.iconst 0, 1) := by decide +kernel
theorem dX9_back_41 : decode cX9_back 41 = .ok (.putfield 151, 3) := by decide +kernel
theorem dX9_back_44 : decode cX9_back 44 = .ok (.aload_n 0, 1) := by decide +kernel
theorem dX9_back_45 : decode cX9_back 45 = .ok (.getfield 154, 3) := by decide +kernel
theorem dX9_back_48 : decode cX9_back 48 = .ok (.ireturn, 1) := by decide +kernel
set_option maxRecDepth 20000 in
theorem ggX9_count_X9_bits : GoodIn wsX9_count wsX9_bits := goodIn_r _ [12] (by decide +kernel) (by decide +kernel)
set_option maxRecDepth 20000 in
theorem gX9_count_X9_bits : GoodIn wsX9_count (va_wsS RX9 179 yX9_bits wsX9_bits) := goodIn_app (goodIn_of _ (by decide +kernel)) ggX9_count_X9_bits
set_option maxRecDepth 20000 in
theorem ggX9_count_X9_standing : GoodIn wsX9_count wsX9_standing := goodIn_r _ [16, 3, 2, 17, 18, 19, 20, 11, 21, 22, 23, 24, 25, 26, 27, 28, 29, 30, 31, 32, 33, 34, 35, 36, 37, 38, 39, 40, 41, 42, 43, 44, 45, 46, 47, 48, 49, 50, 51, 52, 53, 54, 55, 56, 57, 58, 59, 60, 61, 62] (by decide +kernel) (by decide +kernel)
set_option maxRecDepth 20000 in
theorem gX9_count_X9_standing : GoodIn wsX9_count (wsV RX9 169 RX9 yX9_standing wsX9_standing) := goodIn_app (goodIn_of _ (by decide +kernel)) ggX9_count_X9_standing
theorem dX9_count_0 : decode cX9_count 0 = .ok (.iload_n 1, 1) := by decide +kernel
theorem dX9_count_1 : decode cX9_count 1 = .ok (.tableswitch 124 0 9 #[55, 60, 70, 75, 89, 99, 104, 109, 114, 119], 55) := by decide +kernel
theorem dX9_count_56 : decode cX9_count 56 = .ok (.aload_n 0, 1) := by decide +kernel
theorem dX9_count_57 : decode cX9_count 57 = .ok (.getfield 97, 3) := by decide +kernel
theorem dX9_count_60 : decode cX9_count 60 = .ok (.ireturn, 1) := by decide +kernel
theorem dX9_count_61 : decode cX9_count 61 = .ok (.aload_n 0, 1) := by decide +kernel
theorem dX9_count_62 : decode cX9_count 62 = .ok (.getfield 22, 3) := by decide +kernel
theorem dX9_count_65 : decode cX9_count 65 = .ok (.iconst 0, 1) := by decide +kernel
theorem dX9_count_66 : decode cX9_count 66 = .ok (.iaload, 1) := by decide +kernel
theorem dX9_count_67 : decode cX9_count 67 = .ok (.invokestatic 179, 3) := by decide +kernel
theorem dX9_count_70 : decode cX9_count 70 = .ok (.ireturn, 1) := by decide +kernel
theorem dX9_count_71 : decode cX9_count 71 = .ok (.aload_n 0, 1) := by decide +kernel
theorem dX9_count_72 : decode cX9_count 72 = .ok (.getfield 145, 3) := by decide +kernel
theorem dX9_count_75 : decode cX9_count 75 = .ok (.ireturn, 1) := by decide +kernel
theorem dX9_count_76 : decode cX9_count 76 = .ok (.aload_n 0, 1) := by decide +kernel
theorem dX9_count_77 : decode cX9_count 77 = .ok (.aload_n 0, 1) := by decide +kernel
theorem dX9_count_78 : decode cX9_count 78 = .ok (.getfield 22, 3) := by decide +kernel
theorem dX9_count_81 : decode cX9_count 81 = .ok (.iconst 0, 1) := by decide +kernel
theorem dX9_count_82 : decode cX9_count 82 = .ok (.iaload, 1) := by decide +kernel
theorem dX9_count_83 : decode cX9_count 83 = .ok (.invokevirtual 169, 3) := by decide +kernel
theorem dX9_count_86 : decode cX9_count 86 = .ok (.invokestatic 179, 3) := by decide +kernel
theorem dX9_count_89 : decode cX9_count 89 = .ok (.ireturn, 1) := by decide +kernel
theorem dX9_count_90 : decode cX9_count 90 = .ok (.aload_n 0, 1) := by decide +kernel
theorem dX9_count_91 : decode cX9_count 91 = .ok (.getfield 22, 3) := by decide +kernel
theorem dX9_count_94 : decode cX9_count 94 = .ok (.iconst 1, 1) := by decide +kernel
theorem dX9_count_95 : decode cX9_count 95 = .ok (.iaload, 1) := by decide +kernel
theorem dX9_count_96 : decode cX9_count 96 = .ok (.invokestatic 179, 3) := by decide +kernel
theorem dX9_count_99 : decode cX9_count 99 = .ok (.ireturn, 1) := by decide +kernel
theorem dX9_count_100 : decode cX9_count 100 = .ok (.aload_n 0, 1) := by decide +kernel
theorem dX9_count_101 : decode cX9_count 101 = .ok (.getfield 148, 3) := by decide +kernel
theorem dX9_count_104 : decode cX9_count 104 = .ok (.ireturn, 1) := by decide +kernel
theorem dX9_count_105 : decode cX9_count 105 = .ok (.aload_n 0, 1) := by decide +kernel
theorem dX9_count_106 : decode cX9_count 106 = .ok (.getfield 157, 3) := by decide +kernel
theorem dX9_count_109 : decode cX9_count 109 = .ok (.ireturn, 1) := by decide +kernel
theorem dX9_count_110 : decode cX9_count 110 = .ok (.aload_n 0, 1) := by decide +kernel
theorem dX9_count_111 : decode cX9_count 111 = .ok (.getfield 151, 3) := by decide +kernel
theorem dX9_count_114 : decode cX9_count 114 = .ok (.ireturn, 1) := by decide +kernel
theorem dX9_count_115 : decode cX9_count 115 = .ok (.aload_n 0, 1) := by decide +kernel
theorem dX9_count_116 : decode cX9_count 116 = .ok (.getfield 154, 3) := by decide +kernel
theorem dX9_count_119 : decode cX9_count 119 = .ok (.ireturn, 1) := by decide +kernel
theorem dX9_count_120 : decode cX9_count 120 = .ok (.aload_n 0, 1) := by decide +kernel
theorem dX9_count_121 : decode cX9_count 121 = .ok (.getfield 108, 3) := by decide +kernel
theorem dX9_count_124 : decode cX9_count 124 = .ok (.ireturn, 1) := by decide +kernel
theorem dX9_count_125 : decode cX9_count 125 = .ok (.iconst (-1), 1) := by decide +kernel
theorem dX9_count_126 : decode cX9_count 126 = .ok (.ireturn, 1) := by decide +kernel

