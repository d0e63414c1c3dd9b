theorem dX11_readsItem_85 : decode cX11_readsItem 85 = .ok (.isub, 1) := by decide +kernel
theorem dX11_readsItem_86 : decode cX11_readsItem 86 = .ok (.invokevirtual 113, 3) := by decide +kernel
theorem dX11_readsItem_89 : decode cX11_readsItem 89 = .ok (.istore 4, 2) := by decide +kernel
theorem dX11_readsItem_91 : decode cX11_readsItem 91 = .ok (.aload_n 0, 1) := by decide +kernel
theorem dX11_readsItem_92 : decode cX11_readsItem 92 = .ok (.iconst 1, 1) := by decide +kernel
theorem dX11_readsItem_93 : decode cX11_readsItem 93 = .ok (.aload_n 0, 1) := by decide +kernel
theorem dX11_readsItem_94 : decode cX11_readsItem 94 = .ok (.getfield 13, 3) := by decide +kernel
theorem dX11_readsItem_97 : decode cX11_readsItem 97 = .ok (.bipush 10, 2) := by decide +kernel
theorem dX11_readsItem_99 : decode cX11_readsItem 99 = .ok (.iaload, 1) := by decide +kernel
theorem dX11_readsItem_100 : decode cX11_readsItem 100 = .ok (.iload_n 3, 1) := by decide +kernel
theorem dX11_readsItem_101 : decode cX11_readsItem 101 = .ok (.isub, 1) := by decide +kernel
theorem dX11_readsItem_102 : decode cX11_readsItem 102 = .ok (.invokevirtual 113, 3) := by decide +kernel
theorem dX11_readsItem_105 : decode cX11_readsItem 105 = .ok (.istore 5, 2) := by decide +kernel
theorem dX11_readsItem_107 : decode cX11_readsItem 107 = .ok (.iconst 0, 1) := by decide +kernel
theorem dX11_readsItem_108 : decode cX11_readsItem 108 = .ok (.istore 6, 2) := by decide +kernel
theorem dX11_readsItem_110 : decode cX11_readsItem 110 = .ok (.iload 6, 2) := by decide +kernel
theorem dX11_readsItem_112 : decode cX11_readsItem 112 = .ok (.iload 4, 2) := by decide +kernel
theorem dX11_readsItem_114 : decode cX11_readsItem 114 = .ok (.iload 5, 2) := by decide +kernel
theorem dX11_readsItem_116 : decode cX11_readsItem 116 = .ok (.imul, 1) := by decide +kernel
theorem dX11_readsItem_117 : decode cX11_readsItem 117 = .ok (.if_icmp .ge 52, 3) := by decide +kernel
theorem dX11_readsItem_120 : decode cX11_readsItem 120 = .ok (.aload_n 0, 1) := by decide +kernel
theorem dX11_readsItem_121 : decode cX11_readsItem 121 = .ok (.invokevirtual 102, 3) := by decide +kernel
theorem dX11_readsItem_124 : decode cX11_readsItem 124 = .ok (.ifCond .eq 45, 3) := by decide +kernel
theorem dX11_readsItem_127 : decode cX11_readsItem 127 = .ok (.aload_n 0, 1) := by decide +kernel
theorem dX11_readsItem_128 : decode cX11_readsItem 128 = .ok (.getfield 16, 3) := by decide +kernel
theorem dX11_readsItem_131 : decode cX11_readsItem 131 = .ok (.sipush 256, 3) := by decide +kernel
theorem dX11_readsItem_134 : decode cX11_readsItem 134 = .ok (.aload_n 0, 1) := by decide +kernel
theorem dX11_readsItem_135 : decode cX11_readsItem 135 = .ok (.getfield 13, 3) := by decide +kernel
theorem dX11_readsItem_138 : decode cX11_readsItem 138 = .ok (.bipush 9, 2) := by decide +kernel
theorem dX11_readsItem_140 : decode cX11_readsItem 140 = .ok (.iaload, 1) := by decide +kernel
theorem dX11_readsItem_141 : decode cX11_readsItem 141 = .ok (.iload_n 3, 1) := by decide +kernel
theorem dX11_readsItem_142 : decode cX11_readsItem 142 = .ok (.iload 6, 2) := by decide +kernel
theorem dX11_readsItem_144 : decode cX11_readsItem 144 = .ok (.iload 4, 2) := by decide +kernel
theorem dX11_readsItem_146 : decode cX11_readsItem 146 = .ok (.idiv, 1) := by decide +kernel
theorem dX11_readsItem_147 : decode cX11_readsItem 147 = .ok (.iadd, 1) := by decide +kernel
theorem dX11_readsItem_148 : decode cX11_readsItem 148 = .ok (.imul, 1) := by decide +kernel
theorem dX11_readsItem_149 : decode cX11_readsItem 149 = .ok (.iadd, 1) := by decide +kernel
theorem dX11_readsItem_150 : decode cX11_readsItem 150 = .ok (.iload_n 2, 1) := by decide +kernel
theorem dX11_readsItem_151 : decode cX11_readsItem 151 = .ok (.iadd, 1) := by decide +kernel
theorem dX11_readsItem_152 : decode cX11_readsItem 152 = .ok (.iload 6, 2) := by decide +kernel
theorem dX11_readsItem_154 : decode cX11_readsItem 154 = .ok (.iload 4, 2) := by decide +kernel
theorem dX11_readsItem_156 : decode cX11_readsItem 156 = .ok (.irem, 1) := by decide +kernel
theorem dX11_readsItem_157 : decode cX11_readsItem 157 = .ok (.iadd, 1) := by decide +kernel
theorem dX11_readsItem_158 : decode cX11_readsItem 158 = .ok (.dup2, 1) := by decide +kernel
theorem dX11_readsItem_159 : decode cX11_readsItem 159 = .ok (.iaload, 1) := by decide +kernel
theorem dX11_readsItem_160 : decode cX11_readsItem 160 = .ok (.iload_n 1, 1) := by decide +kernel
theorem dX11_readsItem_161 : decode cX11_readsItem 161 = .ok (.ior, 1) := by decide +kernel
theorem dX11_readsItem_162 : decode cX11_readsItem 162 = .ok (.iastore, 1) := by decide +kernel
theorem dX11_readsItem_163 : decode cX11_readsItem 163 = .ok (.iinc 6 1, 3) := by decide +kernel
theorem dX11_readsItem_166 : decode cX11_readsItem 166 = .ok (.goto (-56), 3) := by decide +kernel
theorem dX11_readsItem_169 : decode cX11_readsItem 169 = .ok (.goto 111, 3) := by decide +kernel
theorem dX11_readsItem_172 : decode cX11_readsItem 172 = .ok (.iload_n 1, 1) := by decide +kernel
theorem dX11_readsItem_173 : decode cX11_readsItem 173 = .ok (.iconst 3, 1) := by decide +kernel
theorem dX11_readsItem_174 : decode cX11_readsItem 174 = .ok (.if_icmp .ne 17, 3) := by decide +kernel
theorem dX11_readsItem_177 : decode cX11_readsItem 177 = .ok (.aload_n 0, 1) := by decide +kernel
theorem dX11_readsItem_178 : decode cX11_readsItem 178 = .ok (.getfield 13, 3) := by decide +kernel
theorem dX11_readsItem_181 : decode cX11_readsItem 181 = .ok (.bipush 15, 2) := by decide +kernel
theorem dX11_readsItem_183 : decode cX11_readsItem 183 = .ok (.aload_n 0, 1) := by decide +kernel
theorem dX11_readsItem_184 : decode cX11_readsItem 184 = .ok (.invokevirtual 117, 3) := by decide +kernel
theorem dX11_readsItem_187 : decode cX11_readsItem 187 = .ok (.iastore, 1) := by decide +kernel
theorem dX11_readsItem_188 : decode cX11_readsItem 188 = .ok (.goto 92, 3) := by decide +kernel
theorem dX11_readsItem_191 : decode cX11_readsItem 191 = .ok (.iload_n 1, 1) := by decide +kernel
theorem dX11_readsItem_192 : decode cX11_readsItem 192 = .ok (.iconst 4, 1) := by decide +kernel
theorem dX11_readsItem_193 : decode cX11_readsItem 193 = .ok (.if_icmp .ne 62, 3) := by decide +kernel
theorem dX11_readsItem_196 : decode cX11_readsItem 196 = .ok (.aload_n 0, 1) := by decide +kernel
theorem dX11_readsItem_197 : decode cX11_readsItem 197 = .ok (.getfield 13, 3) := by decide +kernel
theorem dX11_readsItem_200 : decode cX11_readsItem 200 = .ok (.bipush 11, 2) := by decide +kernel
theorem dX11_readsItem_202 : decode cX11_readsItem 202 = .ok (.aload_n 0, 1) := by decide +kernel
theorem dX11_readsItem_203 : decode cX11_readsItem 203 = .ok (.iconst 1, 1) := by decide +kernel
theorem dX11_readsItem_204 : decode cX11_readsItem 204 = .ok (.iconst 3, 1) := by decide +kernel
theorem dX11_readsItem_205 : decode cX11_readsItem 205 = .ok (.invokevirtual 113, 3) := by decide +kernel
theorem dX11_readsItem_208 : decode cX11_readsItem 208 = .ok (.iastore, 1) := by decide +kernel
theorem dX11_readsItem_209 : decode cX11_readsItem 209 = .ok (.aload_n 0, 1) := by decide +kernel
theorem dX11_readsItem_210 : decode cX11_readsItem 210 = .ok (.getfield 13, 3) := by decide +kernel
theorem dX11_readsItem_213 : decode cX11_readsItem 213 = .ok (.bipush 12, 2) := by decide +kernel
theorem dX11_readsItem_215 : decode cX11_readsItem 215 = .ok (.aload_n 0, 1) := by decide +kernel
theorem dX11_readsItem_216 : decode cX11_readsItem 216 = .ok (.iconst 1, 1) := by decide +kernel
theorem dX11_readsItem_217 : decode cX11_readsItem 217 = .ok (.bipush 7, 2) := by decide +kernel
theorem dX11_readsItem_219 : decode cX11_readsItem 219 = .ok (.invokevirtual 113, 3) := by decide +kernel
theorem dX11_readsItem_222 : decode cX11_readsItem 222 = .ok (.iastore, 1) := by decide +kernel
theorem dX11_readsItem_223 : decode cX11_readsItem 223 = .ok (.aload_n 0, 1) := by decide +kernel
theorem dX11_readsItem_224 : decode cX11_readsItem 224 = .ok (.getfield 13, 3) := by decide +kernel
theorem dX11_readsItem_227 : decode cX11_readsItem 227 = .ok (.bipush 13, 2) := by decide +kernel
theorem dX11_readsItem_229 : decode cX11_readsItem 229 = .ok (.aload_n 0, 1) := by decide +kernel
theorem dX11_readsItem_230 : decode cX11_readsItem 230 = .ok (.iconst 0, 1) := by decide +kernel
theorem dX11_readsItem_231 : decode cX11_readsItem 231 = .ok (.bipush 9, 2) := by decide +kernel
theorem dX11_readsItem_233 : decode cX11_readsItem 233 = .ok (.invokevirtual 113, 3) := by decide +kernel
theorem dX11_readsItem_236 : decode cX11_readsItem 236 = .ok (.iastore, 1) := by decide +kernel
theorem dX11_readsItem_237 : decode cX11_readsItem 237 = .ok (.aload_n 0, 1) := by decide +kernel
theorem dX11_readsItem_238 : decode cX11_readsItem 238 = .ok (.getfield 13, 3) := by decide +kernel
theorem dX11_readsItem_241 : decode cX11_readsItem 241 = .ok (.bipush 14, 2) := by decide +kernel
theorem dX11_readsItem_243 : decode cX11_readsItem 243 = .ok (.aload_n 0, 1) := by decide +kernel
theorem dX11_readsItem_244 : decode cX11_readsItem 244 = .ok (.iconst 0, 1) := by decide +kernel
theorem dX11_readsItem_245 : decode cX11_readsItem 245 = .ok (.sipush 999, 3) := by decide +kernel
theorem dX11_readsItem_248 : decode cX11_readsItem 248 = .ok (.invokevirtual 113, 3) := by decide +kernel
theorem dX11_readsItem_251 : decode cX11_readsItem 251 = .ok (.iastore, 1) := by decide +kernel
theorem dX11_readsItem_252 : decode cX11_readsItem 252 = .ok (.goto 28, 3) := by decide +kernel
theorem dX11_readsItem_255 : decode cX11_readsItem 255 = .ok (.aload_n 0, 1) := by decide +kernel
theorem dX11_readsItem_256 : decode cX11_readsItem 256 = .ok (.getfield 13, 3) := by decide +kernel
theorem dX11_readsItem_259 : decode cX11_readsItem 259 = .ok (.bipush 16, 2) := by decide +kernel
theorem dX11_readsItem_261 : decode cX11_readsItem 261 = .ok (.aload_n 0, 1) := by decide +kernel
theorem dX11_readsItem_262 : decode cX11_readsItem 262 = .ok (.invokevirtual 117, 3) := by decide +kernel
theorem dX11_readsItem_265 : decode cX11_readsItem 265 = .ok (.iastore, 1) := by decide +kernel
theorem dX11_readsItem_266 : decode cX11_readsItem 266 = .ok (.aload_n 0, 1) := by decide +kernel
theorem dX11_readsItem_267 : decode cX11_readsItem 267 = .ok (.getfield 13, 3) := by decide +kernel
theorem dX11_readsItem_270 : decode cX11_readsItem 270 = .ok (.bipush 17, 2) := by decide +kernel
theorem dX11_readsItem_272 : decode cX11_readsItem 272 = .ok (.aload_n 0, 1) := by decide +kernel
theorem dX11_readsItem_273 : decode cX11_readsItem 273 = .ok (.iconst 0, 1) := by decide +kernel
theorem dX11_readsItem_274 : decode cX11_readsItem 274 = .ok (.bipush 7, 2) := by decide +kernel
theorem dX11_readsItem_276 : decode cX11_readsItem 276 = .ok (.invokevirtual 113, 3) := by decide +kernel
theorem dX11_readsItem_279 : decode cX11_readsItem 279 = .ok (.iastore, 1) := by decide +kernel
theorem dX11_readsItem_280 : decode cX11_readsItem 280 = .ok (.return_, 1) := by decide +kernel
set_option maxRecDepth 20000 in
theorem ggX11_table_X11_drafts : GoodIn wsX11_table wsX11_drafts := goodIn_r _ [11, 12, 13, 68, 69, 70, 71, 72, 73, 74, 75, 76, 77, 78, 79, 80, 81, 82, 83, 84, 85, 86, 87, 88, 89, 90, 91, 92, 93, 94, 95, 96, 97, 98, 99] (by decide +kernel) (by decide +kernel)
set_option maxRecDepth 20000 in
theorem gX11_table_X11_drafts : GoodIn wsX11_table (wsV RX11 50 RX11 yX11_drafts wsX11_drafts) := goodIn_app (goodIn_of _ (by decide +kernel)) ggX11_table_X11_drafts
set_option maxRecDepth 20000 in
theorem ggX11_table_X11_advances : GoodIn wsX11_table wsX11_advances := goodIn_r _ [17, 3, 18, 4, 5, 19, 20, 21, 10, 22, 6, 23, 24, 25, 26, 27, 28, 29, 30, 31, 32, 33, 34, 35, 36, 68, 69, 70, 71, 72, 73, 74, 75, 76, 77, 78, 79, 80, 81, 82, 83, 84, 85, 86, 87, 88, 89, 90, 91, 92, 93, 94, 95, 96, 97, 98, 99] (by decide +kernel) (by decide +kernel)
set_option maxRecDepth 20000 in
theorem gX11_table_X11_advances : GoodIn wsX11_table (wsV RX11 106 RX11 yX11_advances wsX11_advances) := goodIn_app (goodIn_of _ (by decide +kernel)) ggX11_table_X11_advances
set_option maxRecDepth 20000 in
theorem ggX11_table_X11_isWell : GoodIn wsX11_table wsX11_isWell := goodIn_r _ [40, 2, 68, 69, 70, 71, 72, 73, 74, 75, 76, 77, 78, 79, 80, 81, 82, 83, 84, 85, 86, 87, 88, 89, 90, 91, 92, 93, 94, 95, 96, 97, 98, 99] (by decide +kernel) (by decide +kernel)
set_option maxRecDepth 20000 in
theorem gX11_table_X11_isWell : GoodIn wsX11_table (wsV RX11 102 RX11 yX11_isWell wsX11_isWell) := goodIn_app (goodIn_of _ (by decide +kernel)) ggX11_table_X11_isWell
set_option maxRecDepth 20000 in
theorem ggX11_table_X11_takes : GoodIn wsX11_table wsX11_takes := goodIn_r _ [44, 18, 2, 5, 37, 38, 39, 10, 40, 14, 15, 16, 17, 3, 4, 19, 20, 21, 22, 6, 23, 24, 25, 26, 27, 28, 29, 30, 31, 32, 33, 34, 35, 36, 68, 69, 70, 71, 72, 73, 74, 75, 76, 77, 78, 79, 80, 81, 82, 83, 84, 85, 86, 87, 88, 89, 90, 91, 92, 93, 94, 95, 96, 97, 98, 99] (by decide +kernel) (by decide +kernel)
set_option maxRecDepth 20000 in
theorem gX11_table_X11_takes : GoodIn wsX11_table (wsV RX11 109 RX11 yX11_takes wsX11_takes) := goodIn_app (goodIn_of _ (by decide +kernel)) ggX11_table_X11_takes
set_option maxRecDepth 20000 in
theorem ggX11_table_X11_readsItem : GoodIn wsX11_table wsX11_readsItem := goodIn_r _ [48, 12, 13, 49, 50, 51, 10, 52, 4, 5, 24, 25, 26, 41, 42, 43, 44, 18, 2, 37, 38, 39, 40, 14, 15, 16, 17, 3, 19, 20, 21, 22, 6, 23, 27, 28, 29, 30, 31, 32, 33, 34, 35, 36, 53, 54, 55, 56, 68, 69, 70, 71, 72, 73, 74, 75, 76, 77, 78, 79, 80, 81, 82, 83, 84, 85, 86, 87, 88, 89, 90, 91, 92, 93, 94, 95, 96, 97, 98, 99] (by decide +kernel) (by decide +kernel)
set_option maxRecDepth 20000 in
theorem gX11_table_X11_readsItem : GoodIn wsX11_table (wsV RX11 121 RX11 yX11_readsItem wsX11_readsItem) := goodIn_app (goodIn_of _ (by decide +kernel)) ggX11_table_X11_readsItem
set_option maxRecDepth 20000 in
theorem ggX11_table_X11_adopts : GoodIn wsX11_table wsX11_adopts := goodIn_r _ [60, 12, 13, 61, 62, 63, 64, 65, 10, 66, 67, 68, 69, 70, 71, 72, 73, 74, 75, 76, 77, 78, 79, 80, 81, 82, 83, 84, 85, 86, 87, 88, 89, 90, 91, 92, 93, 94, 95, 96, 97, 98, 99] (by decide +kernel) (by decide +kernel)
set_option maxRecDepth 20000 in
theorem gX11_table_X11_adopts : GoodIn wsX11_table (wsV RX11 53 RX11 yX11_adopts wsX11_adopts) := goodIn_app (goodIn_of _ (by decide +kernel)) ggX11_table_X11_adopts
theorem dX11_table_0 : decode cX11_table 0 = .ok (.aload_n 0, 1) := by decide +kernel
theorem dX11_table_1 : decode cX11_table 1 = .ok (.iconst 0, 1) := by decide +kernel
theorem dX11_table_2 : decode cX11_table 2 = .ok (.putfield 56, 3) := by decide +kernel
theorem dX11_table_5 : decode cX11_table 5 = .ok (.aload_n 0, 1) := by decide +kernel
theorem dX11_table_6 : decode cX11_table 6 = .ok (.iconst (-1), 1) := by decide +kernel
theorem dX11_table_7 : decode cX11_table 7 = .ok (.putfield 99, 3) := by decide +kernel
theorem dX11_table_10 : decode cX11_table 10 = .ok (.aload_n 0, 1) := by decide +kernel
theorem dX11_table_11 : decode cX11_table 11 = .ok (.iconst 0, 1) := by decide +kernel
theorem dX11_table_12 : decode cX11_table 12 = .ok (.putfield 79, 3) := by decide +kernel
theorem dX11_table_15 : decode cX11_table 15 = .ok (.iconst 0, 1) := by decide +kernel
theorem dX11_table_16 : decode cX11_table 16 = .ok (.istore_n 1, 1) := by decide +kernel
theorem dX11_table_17 : decode cX11_table 17 = .ok (.iconst 0, 1) := by decide +kernel
theorem dX11_table_18 : decode cX11_table 18 = .ok (.istore_n 2, 1) := by decide +kernel
theorem dX11_table_19 : decode cX11_table 19 = .ok (.aload_n 0, 1) := by decide +kernel
theorem dX11_table_20 : decode cX11_table 20 = .ok (.invokevirtual 50, 3) := by decide +kernel
theorem dX11_table_23 : decode cX11_table 23 = .ok (.aload_n 0, 1) := by decide +kernel
theorem dX11_table_24 : decode cX11_table 24 = .ok (.invokevirtual 106, 3) := by decide +kernel
theorem dX11_table_27 : decode cX11_table 27 = .ok (.aload_n 0, 1) := by decide +kernel
theorem dX11_table_28 : decode cX11_table 28 = .ok (.invokevirtual 102, 3) := by decide +kernel
theorem dX11_table_31 : decode cX11_table 31 = .ok (.ifCond .eq 103, 3) := by decide +kernel
theorem dX11_table_34 : decode cX11_table 34 = .ok (.aload_n 0, 1) := by decide +kernel
theorem dX11_table_35 : decode cX11_table 35 = .ok (.getfield 89, 3) := by decide +kernel
theorem dX11_table_38 : decode cX11_table 38 = .ok (.ifCond .eq 96, 3) := by decide +kernel
theorem dX11_table_41 : decode cX11_table 41 = .ok (.aload_n 0, 1) := by decide +kernel
theorem dX11_table_42 : decode cX11_table 42 = .ok (.aload_n 0, 1) := by decide +kernel
theorem dX11_table_43 : decode cX11_table 43 = .ok (.getfield 89, 3) := by decide +kernel
theorem dX11_table_46 : decode cX11_table 46 = .ok (.iconst 1, 1) := by decide +kernel
theorem dX11_table_47 : decode cX11_table 47 = .ok (.if_icmp .ne 40, 3) := by decide +kernel
theorem dX11_table_50 : decode cX11_table 50 = .ok (.aload_n 0, 1) := by decide +kernel
theorem dX11_table_51 : decode cX11_table 51 = .ok (.getfield 96, 3) := by decide +kernel
theorem dX11_table_54 : decode cX11_table 54 = .ok (.ifCond .ne 10, 3) := by decide +kernel
theorem dX11_table_57 : decode cX11_table 57 = .ok (.iload_n 1, 1) := by decide +kernel
theorem dX11_table_58 : decode cX11_table 58 = .ok (.ifCond .ne 29, 3) := by decide +kernel
theorem dX11_table_61 : decode cX11_table 61 = .ok (.goto 22, 3) := by decide +kernel
theorem dX11_table_64 : decode cX11_table 64 = .ok (.aload_n 0, 1) := by decide +kernel
theorem dX11_table_65 : decode cX11_table 65 = .ok (.getfield 96, 3) := by decide +kernel
theorem dX11_table_68 : decode cX11_table 68 = .ok (.iconst 3, 1) := by decide +kernel
theorem dX11_table_69 : decode cX11_table 69 = .ok (.if_icmp .lt 14, 3) := by decide +kernel
theorem dX11_table_72 : decode cX11_table 72 = .ok (.iload_n 2, 1) := by decide +kernel
theorem dX11_table_73 : decode cX11_table 73 = .ok (.aload_n 0, 1) := by decide +kernel
theorem dX11_table_74 : decode cX11_table 74 = .ok (.getfield 96, 3) := by decide +kernel
theorem dX11_table_77 : decode cX11_table 77 = .ok (.ishr, 1) := by decide +kernel
theorem dX11_table_78 : decode cX11_table 78 = .ok (.iconst 1, 1) := by decide +kernel
theorem dX11_table_79 : decode cX11_table 79 = .ok (.iand, 1) := by decide +kernel
theorem dX11_table_80 : decode cX11_table 80 = .ok (.ifCond .ne 7, 3) := by decide +kernel
theorem dX11_table_83 : decode cX11_table 83 = .ok (.iconst 1, 1) := by decide +kernel
theorem dX11_table_84 : decode cX11_table 84 = .ok (.goto 4, 3) := by decide +kernel
theorem dX11_table_87 : decode cX11_table 87 = .ok (.iconst 0, 1) := by decide +kernel
theorem dX11_table_88 : decode cX11_table 88 = .ok (.invokevirtual 109, 3) := by decide +kernel
theorem dX11_table_91 : decode cX11_table 91 = .ok (.istore_n 3, 1) := by decide +kernel
theorem dX11_table_92 : decode cX11_table 92 = .ok (.aload_n 0, 1) := by decide +kernel
theorem dX11_table_93 : decode cX11_table 93 = .ok (.invokevirtual 102, 3) := by decide +kernel
theorem dX11_table_96 : decode cX11_table 96 = .ok (.ifCond .eq 14, 3) := by decide +kernel
theorem dX11_table_99 : decode cX11_table 99 = .ok (.iload_n 2, 1) := by decide +kernel
theorem dX11_table_100 : decode cX11_table 100 = .ok (.iconst 1, 1) := by decide +kernel
theorem dX11_table_101 : decode cX11_table 101 = .ok (.iload_n 3, 1) := by decide +kernel
theorem dX11_table_102 : decode cX11_table 102 = .ok (.ishl, 1) := by decide +kernel
theorem dX11_table_103 : decode cX11_table 103 = .ok (.ior, 1) := by decide +kernel
theorem dX11_table_104 : decode cX11_table 104 = .ok (.istore_n 2, 1) := by decide +kernel
theorem dX11_table_105 : decode cX11_table 105 = .ok (.aload_n 0, 1) := by decide +kernel
theorem dX11_table_106 : decode cX11_table 106 = .ok (.iload_n 3, 1) := by decide +kernel
theorem dX11_table_107 : decode cX11_table 107 = .ok (.invokevirtual 121, 3) := by decide +kernel
theorem dX11_table_110 : decode cX11_table 110 = .ok (.aload_n 0, 1) := by decide +kernel
theorem dX11_table_111 : decode cX11_table 111 = .ok (.aload_n 0, 1) := by decide +kernel
theorem dX11_table_112 : decode cX11_table 112 = .ok (.getfield 89, 3) := by decide +kernel
theorem dX11_table_115 : decode cX11_table 115 = .ok (.iconst 3, 1) := by decide +kernel
theorem dX11_table_116 : decode cX11_table 116 = .ok (.if_icmp .ne 7, 3) := by decide +kernel
theorem dX11_table_119 : decode cX11_table 119 = .ok (.iconst 1, 1) := by decide +kernel
theorem dX11_table_120 : decode cX11_table 120 = .ok (.goto 4, 3) := by decide +kernel
theorem dX11_table_123 : decode cX11_table 123 = .ok (.iconst 0, 1) := by decide +kernel
theorem dX11_table_124 : decode cX11_table 124 = .ok (.invokevirtual 109, 3) := by decide +kernel
theorem dX11_table_127 : decode cX11_table 127 = .ok (.pop, 1) := by decide +kernel
theorem dX11_table_128 : decode cX11_table 128 = .ok (.iinc 1 1, 3) := by decide +kernel
theorem dX11_table_131 : decode cX11_table 131 = .ok (.goto (-104), 3) := by decide +kernel
theorem dX11_table_134 : decode cX11_table 134 = .ok (.aload_n 0, 1) := by decide +kernel
theorem dX11_table_135 : decode cX11_table 135 = .ok (.invokevirtual 102, 3) := by decide +kernel
theorem dX11_table_138 : decode cX11_table 138 = .ok (.ifCond .ne 11, 3) := by decide +kernel
theorem dX11_table_141 : decode cX11_table 141 = .ok (.bipush (-10), 2) := by decide +kernel
theorem dX11_table_143 : decode cX11_table 143 = .ok (.aload_n 0, 1) := by decide +kernel
theorem dX11_table_144 : decode cX11_table 144 = .ok (.getfield 99, 3) := by decide +kernel
theorem dX11_table_147 : decode cX11_table 147 = .ok (.isub, 1) := by decide +kernel
theorem dX11_table_148 : decode cX11_table 148 = .ok (.ireturn, 1) := by decide +kernel
theorem dX11_table_149 : decode cX11_table 149 = .ok (.aload_n 0, 1) := by decide +kernel
theorem dX11_table_150 : decode cX11_table 150 = .ok (.invokevirtual 53, 3) := by decide +kernel
theorem dX11_table_153 : decode cX11_table 153 = .ok (.aload_n 0, 1) := by decide +kernel
theorem dX11_table_154 : decode cX11_table 154 = .ok (.iconst 0, 1) := by decide +kernel
theorem dX11_table_155 : decode cX11_table 155 = .ok (.putfield 64, 3) := by decide +kernel
theorem dX11_table_158 : decode cX11_table 158 = .ok (.iload_n 1, 1) := by decide +kernel
theorem dX11_table_159 : decode cX11_table 159 = .ok (.ireturn, 1) := by decide +kernel
set_option maxRecDepth 20000 in
theorem ggX11_adopts_X11_begins : GoodIn wsX11_adopts wsX11_begins := goodIn_r _ [9, 10, 1, 11, 12, 13, 14, 15, 16, 17, 18, 19, 20, 21, 22, 23, 24, 25, 26, 27, 28, 29, 30, 31, 32, 33, 34, 35, 36, 37, 38, 39, 40, 41, 42] (by decide +kernel) (by decide +kernel)
set_option maxRecDepth 20000 in
theorem gX11_adopts_X11_begins : GoodIn wsX11_adopts (wsV RX11 128 RX11 yX11_begins wsX11_begins) := goodIn_app (goodIn_of _ (by decide +kernel)) ggX11_adopts_X11_begins
theorem dX11_adopts_0 : decode cX11_adopts 0 = .ok (.iconst 0, 1) := by decide +kernel
theorem dX11_adopts_1 : decode cX11_adopts 1 = .ok (.istore_n 1, 1) := by decide +kernel
theorem dX11_adopts_2 : decode cX11_adopts 2 = .ok (.iload_n 1, 1) := by decide +kernel
theorem dX11_adopts_3 : decode cX11_adopts 3 = .ok (.bipush 9, 2) := by decide +kernel
theorem dX11_adopts_5 : decode cX11_adopts 5 = .ok (.if_icmp .ge 24, 3) := by decide +kernel
theorem dX11_adopts_8 : decode cX11_adopts 8 = .ok (.aload_n 0, 1) := by decide +kernel
theorem dX11_adopts_9 : decode cX11_adopts 9 = .ok (.getfield 13, 3) := by decide +kernel
theorem dX11_adopts_12 : decode cX11_adopts 12 = .ok (.iload_n 1, 1) := by decide +kernel
theorem dX11_adopts_13 : decode cX11_adopts 13 = .ok (.aload_n 0, 1) := by decide +kernel
theorem dX11_adopts_14 : decode cX11_adopts 14 = .ok (.getfield 13, 3) := by decide +kernel
theorem dX11_adopts_17 : decode cX11_adopts 17 = .ok (.bipush 9, 2) := by decide +kernel
theorem dX11_adopts_19 : decode cX11_adopts 19 = .ok (.iload_n 1, 1) := by decide +kernel
theorem dX11_adopts_20 : decode cX11_adopts 20 = .ok (.iadd, 1) := by decide +kernel
theorem dX11_adopts_21 : decode cX11_adopts 21 = .ok (.iaload, 1) := by decide +kernel
theorem dX11_adopts_22 : decode cX11_adopts 22 = .ok (.iastore, 1) := by decide +kernel
theorem dX11_adopts_23 : decode cX11_adopts 23 = .ok (.iinc 1 1, 3) := by decide +kernel
theorem dX11_adopts_26 : decode cX11_adopts 26 = .ok (.goto (-24), 3) := by decide +kernel
theorem dX11_adopts_29 : decode cX11_adopts 29 = .ok (.iconst 0, 1) := by decide +kernel
theorem dX11_adopts_30 : decode cX11_adopts 30 = .ok (.istore_n 1, 1) := by decide +kernel
theorem dX11_adopts_31 : decode cX11_adopts 31 = .ok (.iload_n 1, 1) := by decide +kernel
theorem dX11_adopts_32 : decode cX11_adopts 32 = .ok (.sipush 256, 3) := by decide +kernel
theorem dX11_adopts_35 : decode cX11_adopts 35 = .ok (.if_icmp .ge 44, 3) := by decide +kernel
theorem dX11_adopts_38 : decode cX11_adopts 38 = .ok (.aload_n 0, 1) := by decide +kernel
theorem dX11_adopts_39 : decode cX11_adopts 39 = .ok (.getfield 16, 3) := by decide +kernel
theorem dX11_adopts_42 : decode cX11_adopts 42 = .ok (.iload_n 1, 1) := by decide +kernel
theorem dX11_adopts_43 : decode cX11_adopts 43 = .ok (.aload_n 0, 1) := by decide +kernel
theorem dX11_adopts_44 : decode cX11_adopts 44 = .ok (.getfield 16, 3) := by decide +kernel
theorem dX11_adopts_47 : decode cX11_adopts 47 = .ok (.sipush 256, 3) := by decide +kernel
theorem dX11_adopts_50 : decode cX11_adopts 50 = .ok (.iload_n 1, 1) := by decide +kernel
theorem dX11_adopts_51 : decode cX11_adopts 51 = .ok (.iadd, 1) := by decide +kernel
theorem dX11_adopts_52 : decode cX11_adopts 52 = .ok (.iaload, 1) := by decide +kernel
theorem dX11_adopts_53 : decode cX11_adopts 53 = .ok (.iconst 1, 1) := by decide +kernel
theorem dX11_adopts_54 : decode cX11_adopts 54 = .ok (.iand, 1) := by decide +kernel
theorem dX11_adopts_55 : decode cX11_adopts 55 = .ok (.ifCond .eq 7, 3) := by decide +kernel
theorem dX11_adopts_58 : decode cX11_adopts 58 = .ok (.iconst 1, 1) := by decide +kernel
theorem dX11_adopts_59 : decode cX11_adopts 59 = .ok (.goto 13, 3) := by decide +kernel
theorem dX11_adopts_62 : decode cX11_adopts 62 = .ok (.aload_n 0, 1) := by decide +kernel
theorem dX11_adopts_63 : decode cX11_adopts 63 = .ok (.getfield 16, 3) := by decide +kernel
theorem dX11_adopts_66 : decode cX11_adopts 66 = .ok (.sipush 256, 3) := by decide +kernel
theorem dX11_adopts_69 : decode cX11_adopts 69 = .ok (.iload_n 1, 1) := by decide +kernel
theorem dX11_adopts_70 : decode cX11_adopts 70 = .ok (.iadd, 1) := by decide +kernel
theorem dX11_adopts_71 : decode cX11_adopts 71 = .ok (.iaload, 1) := by decide +kernel
theorem dX11_adopts_72 : decode cX11_adopts 72 = .ok (.iastore, 1) := by decide +kernel
theorem dX11_adopts_73 : decode cX11_adopts 73 = .ok (.iinc 1 1, 3) := by decide +kernel
theorem dX11_adopts_76 : decode cX11_adopts 76 = .ok (.goto (-45), 3) := by decide +kernel
theorem dX11_adopts_79 : decode cX11_adopts 79 = .ok (.aload_n 0, 1) := by decide +kernel
theorem dX11_adopts_80 : decode cX11_adopts 80 = .ok (.iconst 0, 1) := by decide +kernel
theorem dX11_adopts_81 : decode cX11_adopts 81 = .ok (.putfield 125, 3) := by decide +kernel
theorem dX11_adopts_84 : decode cX11_adopts 84 = .ok (.aload_n 0, 1) := by decide +kernel
theorem dX11_adopts_85 : decode cX11_adopts 85 = .ok (.getfield 25, 3) := by decide +kernel
theorem dX11_adopts_88 : decode cX11_adopts 88 = .ok (.iconst 0, 1) := by decide +kernel
theorem dX11_adopts_89 : decode cX11_adopts 89 = .ok (.iconst 0, 1) := by decide +kernel
theorem dX11_adopts_90 : decode cX11_adopts 90 = .ok (.bastore, 1) := by decide +kernel
theorem dX11_adopts_91 : decode cX11_adopts 91 = .ok (.aload_n 0, 1) := by decide +kernel
theorem dX11_adopts_92 : decode cX11_adopts 92 = .ok (.getfield 25, 3) := by decide +kernel
theorem dX11_adopts_95 : decode cX11_adopts 95 = .ok (.iconst 1, 1) := by decide +kernel
theorem dX11_adopts_96 : decode cX11_adopts 96 = .ok (.iconst 0, 1) := by decide +kernel
theorem dX11_adopts_97 : decode cX11_adopts 97 = .ok (.bastore, 1) := by decide +kernel
theorem dX11_adopts_98 : decode cX11_adopts 98 = .ok (.aload_n 0, 1) := by decide +kernel
theorem dX11_adopts_99 : decode cX11_adopts 99 = .ok (.invokevirtual 128, 3) := by decide +kernel
theorem dX11_adopts_102 : decode cX11_adopts 102 = .ok (.return_, 1) := by decide +kernel
theorem dX11_begins_0 : decode cX11_begins 0 = .ok (.aload_n 0, 1) := by decide +kernel
theorem dX11_begins_1 : decode cX11_begins 1 = .ok (.getfield 19, 3) := by decide +kernel
theorem dX11_begins_4 : decode cX11_begins 4 = .ok (.iconst 0, 1) := by decide +kernel
theorem dX11_begins_5 : decode cX11_begins 5 = .ok (.aload_n 0, 1) := by decide +kernel
theorem dX11_begins_6 : decode cX11_begins 6 = .ok (.getfield 13, 3) := by decide +kernel
theorem dX11_begins_9 : decode cX11_begins 9 = .ok (.bipush 7, 2) := by decide +kernel
theorem dX11_begins_11 : decode cX11_begins 11 = .ok (.iaload, 1) := by decide +kernel
theorem dX11_begins_12 : decode cX11_begins 12 = .ok (.aload_n 0, 1) := by decide +kernel
theorem dX11_begins_13 : decode cX11_begins 13 = .ok (.getfield 13, 3) := by decide +kernel
theorem dX11_begins_16 : decode cX11_begins 16 = .ok (.iconst 0, 1) := by decide +kernel
theorem dX11_begins_17 : decode cX11_begins 17 = .ok (.iaload, 1) := by decide +kernel
theorem dX11_begins_18 : decode cX11_begins 18 = .ok (.irem, 1) := by decide +kernel
theorem dX11_begins_19 : decode cX11_begins 19 = .ok (.iastore, 1) := by decide +kernel
theorem dX11_begins_20 : decode cX11_begins 20 = .ok (.aload_n 0, 1) := by decide +kernel
theorem dX11_begins_21 : decode cX11_begins 21 = .ok (.getfield 19, 3) := by decide +kernel
theorem dX11_begins_24 : decode cX11_begins 24 = .ok (.iconst 1, 1) := by decide +kernel
theorem dX11_begins_25 : decode cX11_begins 25 = .ok (.aload_n 0, 1) := by decide +kernel
theorem dX11_begins_26 : decode cX11_begins 26 = .ok (.getfield 13, 3) := by decide +kernel
theorem dX11_begins_29 : decode cX11_begins 29 = .ok (.bipush 7, 2) := by decide +kernel
theorem dX11_begins_31 : decode cX11_begins 31 = .ok (.iaload, 1) := by decide +kernel
theorem dX11_begins_32 : decode cX11_begins 32 = .ok (.aload_n 0, 1) := by decide +kernel
theorem dX11_begins_33 : decode cX11_begins 33 = .ok (.getfield 13, 3) := by decide +kernel
theorem dX11_begins_36 : decode cX11_begins 36 = .ok (.iconst 0, 1) := by decide +kernel
theorem dX11_begins_37 : decode cX11_begins 37 = .ok (.iaload, 1) := by decide +kernel
theorem dX11_begins_38 : decode cX11_begins 38 = .ok (.idiv, 1) := by decide +kernel
theorem dX11_begins_39 : decode cX11_begins 39 = .ok (.iastore, 1) := by decide +kernel
theorem dX11_begins_40 : decode cX11_begins 40 = .ok (.aload_n 0, 1) := by decide +kernel
theorem dX11_begins_41 : decode cX11_begins 41 = .ok (.getfield 19, 3) := by decide +kernel
theorem dX11_begins_44 : decode cX11_begins 44 = .ok (.iconst 2, 1) := by decide +kernel
theorem dX11_begins_45 : decode cX11_begins 45 = .ok (.aload_n 0, 1) := by decide +kernel
theorem dX11_begins_46 : decode cX11_begins 46 = .ok (.getfield 13, 3) := by decide +kernel
theorem dX11_begins_49 : decode cX11_begins 49 = .ok (.bipush 8, 2) := by decide +kernel
theorem dX11_begins_51 : decode cX11_begins 51 = .ok (.iaload, 1) := by decide +kernel
theorem dX11_begins_52 : decode cX11_begins 52 = .ok (.iastore, 1) := by decide +kernel
theorem dX11_begins_53 : decode cX11_begins 53 = .ok (.aload_n 0, 1) := by decide +kernel
theorem dX11_begins_54 : decode cX11_begins 54 = .ok (.getfield 19, 3) := by decide +kernel
theorem dX11_begins_57 : decode cX11_begins 57 = .ok (.iconst 3, 1) := by decide +kernel
theorem dX11_begins_58 : decode cX11_begins 58 = .ok (.iconst 0, 1) := by decide +kernel
theorem dX11_begins_59 : decode cX11_begins 59 = .ok (.iastore, 1) := by decide +kernel
theorem dX11_begins_60 : decode cX11_begins 60 = .ok (.aload_n 0, 1) := by decide +kernel
theorem dX11_begins_61 : decode cX11_begins 61 = .ok (.getfield 19, 3) := by decide +kernel
theorem dX11_begins_64 : decode cX11_begins 64 = .ok (.iconst 4, 1) := by decide +kernel
theorem dX11_begins_65 : decode cX11_begins 65 = .ok (.aload_n 0, 1) := by decide +kernel
theorem dX11_begins_66 : decode cX11_begins 66 = .ok (.getfield 13, 3) := by decide +kernel
theorem dX11_begins_69 : decode cX11_begins 69 = .ok (.iconst 5, 1) := by decide +kernel
theorem dX11_begins_70 : decode cX11_begins 70 = .ok (.iaload, 1) := by decide +kernel
theorem dX11_begins_71 : decode cX11_begins 71 = .ok (.iastore, 1) := by decide +kernel
theorem dX11_begins_72 : decode cX11_begins 72 = .ok (.iconst 5, 1) := by decide +kernel
theorem dX11_begins_73 : decode cX11_begins 73 = .ok (.istore_n 1, 1) := by decide +kernel
theorem dX11_begins_74 : decode cX11_begins 74 = .ok (.iload_n 1, 1) := by decide +kernel
theorem dX11_begins_75 : decode cX11_begins 75 = .ok (.bipush 9, 2) := by decide +kernel
theorem dX11_begins_77 : decode cX11_begins 77 = .ok (.if_icmp .ge 16, 3) := by decide +kernel
theorem dX11_begins_80 : decode cX11_begins 80 = .ok (.aload_n 0, 1) := by decide +kernel
theorem dX11_begins_81 : decode cX11_begins 81 = .ok (.getfield 19, 3) := by decide +kernel
theorem dX11_begins_84 : decode cX11_begins 84 = .ok (.iload_n 1, 1) := by decide +kernel
theorem dX11_begins_85 : decode cX11_begins 85 = .ok (.iconst 0, 1) := by decide +kernel
theorem dX11_begins_86 : decode cX11_begins 86 = .ok (.iastore, 1) := by decide +kernel
theorem dX11_begins_87 : decode cX11_begins 87 = .ok (.iinc 1 1, 3) := by decide +kernel
theorem dX11_begins_90 : decode cX11_begins 90 = .ok (.goto (-16), 3) := by decide +kernel
theorem dX11_begins_93 : decode cX11_begins 93 = .ok (.aload_n 0, 1) := by decide +kernel
theorem dX11_begins_94 : decode cX11_begins 94 = .ok (.getfield 19, 3) := by decide +kernel
theorem dX11_begins_97 : decode cX11_begins 97 = .ok (.bipush 9, 2) := by decide +kernel
theorem dX11_begins_99 : decode cX11_begins 99 = .ok (.bipush (-9), 2) := by decide +kernel
theorem dX11_begins_101 : decode cX11_begins 101 = .ok (.iastore, 1) := by decide +kernel
theorem dX11_begins_102 : decode cX11_begins 102 = .ok (.aload_n 0, 1) := by decide +kernel
theorem dX11_begins_103 : decode cX11_begins 103 = .ok (.getfield 19, 3) := by decide +kernel
theorem dX11_begins_106 : decode cX11_begins 106 = .ok (.bipush 10, 2) := by decide +kernel
theorem dX11_begins_108 : decode cX11_begins 108 = .ok (.iconst 0, 1) := by decide +kernel
theorem dX11_begins_109 : decode cX11_begins 109 = .ok (.iastore, 1) := by decide +kernel
theorem dX11_begins_110 : decode cX11_begins 110 = .ok (.return_, 1) := by decide +kernel
theorem dX11_cells_0 : decode cX11_cells 0 = .ok (.aload_n 0, 1) := by decide +kernel
theorem dX11_cells_1 : decode cX11_cells 1 = .ok (.getfield 13, 3) := by decide +kernel
theorem dX11_cells_4 : decode cX11_cells 4 = .ok (.iconst 0, 1) := by decide +kernel
theorem dX11_cells_5 : decode cX11_cells 5 = .ok (.iaload, 1) := by decide +kernel
theorem dX11_cells_6 : decode cX11_cells 6 = .ok (.aload_n 0, 1) := by decide +kernel
theorem dX11_cells_7 : decode cX11_cells 7 = .ok (.getfield 13, 3) := by decide +kernel
theorem dX11_cells_10 : decode cX11_cells 10 = .ok (.iconst 1, 1) := by decide +kernel
theorem dX11_cells_11 : decode cX11_cells 11 = .ok (.iaload, 1) := by decide +kernel
theorem dX11_cells_12 : decode cX11_cells 12 = .ok (.imul, 1) := by decide +kernel
theorem dX11_cells_13 : decode cX11_cells 13 = .ok (.ireturn, 1) := by decide +kernel
set_option maxRecDepth 20000 in
theorem ggX11_at_X11_in : GoodIn wsX11_at wsX11_in := goodIn_r _ [6] (by decide +kernel) (by decide +kernel)
set_option maxRecDepth 20000 in
theorem gX11_at_X11_in : GoodIn wsX11_at (va_wsS RX11 60 yX11_in wsX11_in) := goodIn_app (goodIn_of _ (by decide +kernel)) ggX11_at_X11_in
theorem dX11_at_0 : decode cX11_at 0 = .ok (.iload_n 1, 1) := by decide +kernel
theorem dX11_at_1 : decode cX11_at 1 = .ok (.iconst 0, 1) := by decide +kernel
theorem dX11_at_2 : decode cX11_at 2 = .ok (.aload_n 0, 1) := by decide +kernel
theorem dX11_at_3 : decode cX11_at 3 = .ok (.getfield 13, 3) := by decide +kernel
theorem dX11_at_6 : decode cX11_at 6 = .ok (.iconst 0, 1) := by decide +kernel
theorem dX11_at_7 : decode cX11_at 7 = .ok (.iaload, 1) := by decide +kernel
theorem dX11_at_8 : decode cX11_at 8 = .ok (.iconst 1, 1) := by decide +kernel
theorem dX11_at_9 : decode cX11_at 9 = .ok (.isub, 1) := by decide +kernel
theorem dX11_at_10 : decode cX11_at 10 = .ok (.invokestatic 60, 3) := by decide +kernel
theorem dX11_at_13 : decode cX11_at 13 = .ok (.ifCond .eq 37, 3) := by decide +kernel
theorem dX11_at_16 : decode cX11_at 16 = .ok (.iload_n 2, 1) := by decide +kernel
theorem dX11_at_17 : decode cX11_at 17 = .ok (.iconst 0, 1) := by decide +kernel
theorem dX11_at_18 : decode cX11_at 18 = .ok (.aload_n 0, 1) := by decide +kernel
theorem dX11_at_19 : decode cX11_at 19 = .ok (.getfield 13, 3) := by decide +kernel
theorem dX11_at_22 : decode cX11_at 22 = .ok (.iconst 1, 1) := by decide +kernel
theorem dX11_at_23 : decode cX11_at 23 = .ok (.iaload, 1) := by decide +kernel
theorem dX11_at_24 : decode cX11_at 24 = .ok (.iconst 1, 1) := by decide +kernel
theorem dX11_at_25 : decode cX11_at 25 = .ok (.isub, 1) := by decide +kernel
theorem dX11_at_26 : decode cX11_at 26 = .ok (.invokestatic 60, 3) := by decide +kernel
theorem dX11_at_29 : decode cX11_at 29 = .ok (.ifCond .eq 21, 3) := by decide +kernel
theorem dX11_at_32 : decode cX11_at 32 = .ok (.aload_n 0, 1) := by decide +kernel
theorem dX11_at_33 : decode cX11_at 33 = .ok (.getfield 16, 3) := by decide +kernel
theorem dX11_at_36 : decode cX11_at 36 = .ok (.aload_n 0, 1) := by decide +kernel
theorem dX11_at_37 : decode cX11_at 37 = .ok (.getfield 13, 3) := by decide +kernel
theorem dX11_at_40 : decode cX11_at 40 = .ok (.iconst 0, 1) := by decide +kernel
theorem dX11_at_41 : decode cX11_at 41 = .ok (.iaload, 1) := by decide +kernel
theorem dX11_at_42 : decode cX11_at 42 = .ok (.iload_n 2, 1) := by decide +kernel
theorem dX11_at_43 : decode cX11_at 43 = .ok (.imul, 1) := by decide +kernel
theorem dX11_at_44 : decode cX11_at 44 = .ok (.iload_n 1, 1) := by decide +kernel
theorem dX11_at_45 : decode cX11_at 45 = .ok (.iadd, 1) := by decide +kernel
theorem dX11_at_46 : decode cX11_at 46 = .ok (.iaload, 1) := by decide +kernel
theorem dX11_at_47 : decode cX11_at 47 = .ok (.goto 5, 3) := by decide +kernel
theorem dX11_at_50 : decode cX11_at 50 = .ok (.bipush (-5), 2) := by decide +kernel
theorem dX11_at_52 : decode cX11_at 52 = .ok (.ireturn, 1) := by decide +kernel
set_option maxRecDepth 20000 in
theorem ggX11_isWood_X11_at : GoodIn wsX11_isWood wsX11_at := goodIn_r _ [5, 6, 7, 8, 9, 4, 10, 11, 12, 13, 14, 15, 16, 17, 18, 19, 20, 21, 22, 23, 24, 25, 26, 27, 28, 29, 30, 31, 32, 33, 34, 35, 36, 37, 38, 39, 40, 41, 42] (by decide +kernel) (by decide +kernel)
set_option maxRecDepth 20000 in
theorem gX11_isWood_X11_at : GoodIn wsX11_isWood (wsV RX11 131 RX11 yX11_at wsX11_at) := goodIn_app (goodIn_of _ (by decide +kernel)) ggX11_isWood_X11_at
theorem dX11_isWood_0 : decode cX11_isWood 0 = .ok (.aload_n 0, 1) := by decide +kernel
theorem dX11_isWood_1 : decode cX11_isWood 1 = .ok (.iload_n 1, 1) := by decide +kernel
theorem dX11_isWood_2 : decode cX11_isWood 2 = .ok (.iload_n 2, 1) := by decide +kernel
theorem dX11_isWood_3 : decode cX11_isWood 3 = .ok (.invokevirtual 131, 3) := by decide +kernel
theorem dX11_isWood_6 : decode cX11_isWood 6 = .ok (.istore_n 3, 1) := by decide +kernel
theorem dX11_isWood_7 : decode cX11_isWood 7 = .ok (.iload_n 3, 1) := by decide +kernel
theorem dX11_isWood_8 : decode cX11_isWood 8 = .ok (.ifCond .eq 8, 3) := by decide +kernel
theorem dX11_isWood_11 : decode cX11_isWood 11 = .ok (.iload_n 3, 1) := by decide +kernel
theorem dX11_isWood_12 : decode cX11_isWood 12 = .ok (.iconst 2, 1) := by decide +kernel
theorem dX11_isWood_13 : decode cX11_isWood 13 = .ok (.if_icmp .ne 7, 3) := by decide +kernel
theorem dX11_isWood_16 : decode cX11_isWood 16 = .ok (.iconst 1, 1) := by decide +kernel
theorem dX11_isWood_17 : decode cX11_isWood 17 = .ok (.goto 4, 3) := by decide +kernel
theorem dX11_isWood_20 : decode cX11_isWood 20 = .ok (.iconst 0, 1) := by decide +kernel
theorem dX11_isWood_21 : decode cX11_isWood 21 = .ok (.ireturn, 1) := by decide +kernel
set_option maxRecDepth 20000 in
theorem ggX11_cell_X11_at : GoodIn wsX11_cell wsX11_at := goodIn_r _ [6, 7, 8, 9, 10, 5, 11, 12, 13, 14, 15, 16, 17, 18, 19, 20, 21, 22, 23, 24, 25, 26, 27, 28, 29, 30, 31, 32, 33, 34, 35, 36, 37, 38, 39, 40, 41, 42, 43] (by decide +kernel) (by decide +kernel)
set_option maxRecDepth 20000 in
theorem gX11_cell_X11_at : GoodIn wsX11_cell (wsV RX11 131 RX11 yX11_at wsX11_at) := goodIn_app (goodIn_of _ (by decide +kernel)) ggX11_cell_X11_at
theorem dX11_cell_0 : decode cX11_cell 0 = .ok (.aload_n 0, 1) := by decide +kernel
theorem dX11_cell_1 : decode cX11_cell 1 = .ok (.iconst 0, 1) := by decide +kernel
theorem dX11_cell_2 : decode cX11_cell 2 = .ok (.putfield 56, 3) := by decide +kernel
theorem dX11_cell_5 : decode cX11_cell 5 = .ok (.aload_n 0, 1) := by decide +kernel
theorem dX11_cell_6 : decode cX11_cell 6 = .ok (.iload_n 1, 1) := by decide +kernel
theorem dX11_cell_7 : decode cX11_cell 7 = .ok (.iload_n 2, 1) := by decide +kernel
theorem dX11_cell_8 : decode cX11_cell 8 = .ok (.invokevirtual 131, 3) := by decide +kernel
theorem dX11_cell_11 : decode cX11_cell 11 = .ok (.bipush (-5), 2) := by decide +kernel
theorem dX11_cell_13 : decode cX11_cell 13 = .ok (.if_icmp .ne 7, 3) := by decide +kernel
theorem dX11_cell_16 : decode cX11_cell 16 = .ok (.iconst (-1), 1) := by decide +kernel
theorem dX11_cell_17 : decode cX11_cell 17 = .ok (.goto 9, 3) := by decide +kernel
theorem dX11_cell_20 : decode cX11_cell 20 = .ok (.aload_n 0, 1) := by decide +kernel
theorem dX11_cell_21 : decode cX11_cell 21 = .ok (.iload_n 1, 1) := by decide +kernel
theorem dX11_cell_22 : decode cX11_cell 22 = .ok (.iload_n 2, 1) := by decide +kernel
theorem dX11_cell_23 : decode cX11_cell 23 = .ok (.invokevirtual 131, 3) := by decide +kernel
theorem dX11_cell_26 : decode cX11_cell 26 = .ok (.ireturn, 1) := by decide +kernel
set_option maxRecDepth 20000 in
theorem ggX11_told_X11_in : GoodIn wsX11_told wsX11_in := goodIn_r _ [6] (by decide +kernel) (by decide +kernel)
set_option maxRecDepth 20000 in
theorem gX11_told_X11_in : GoodIn wsX11_told (va_wsS RX11 60 yX11_in wsX11_in) := goodIn_app (goodIn_of _ (by decide +kernel)) ggX11_told_X11_in
theorem dX11_told_0 : decode cX11_told 0 = .ok (.aload_n 0, 1) := by decide +kernel
theorem dX11_told_1 : decode cX11_told 1 = .ok (.iconst 0, 1) := by decide +kernel
theorem dX11_told_2 : decode cX11_told 2 = .ok (.putfield 56, 3) := by decide +kernel
theorem dX11_told_5 : decode cX11_told 5 = .ok (.iload_n 1, 1) := by decide +kernel
theorem dX11_told_6 : decode cX11_told 6 = .ok (.iconst 0, 1) := by decide +kernel
theorem dX11_told_7 : decode cX11_told 7 = .ok (.bipush 8, 2) := by decide +kernel
theorem dX11_told_9 : decode cX11_told 9 = .ok (.invokestatic 60, 3) := by decide +kernel
theorem dX11_told_12 : decode cX11_told 12 = .ok (.ifCond .eq 12, 3) := by decide +kernel
theorem dX11_told_15 : decode cX11_told 15 = .ok (.aload_n 0, 1) := by decide +kernel
theorem dX11_told_16 : decode cX11_told 16 = .ok (.getfield 13, 3) := by decide +kernel
theorem dX11_told_19 : decode cX11_told 19 = .ok (.iload_n 1, 1) := by decide +kernel
theorem dX11_told_20 : decode cX11_told 20 = .ok (.iaload, 1) := by decide +kernel
theorem dX11_told_21 : decode cX11_told 21 = .ok (.goto 4, 3) := by decide +kernel
theorem dX11_told_24 : decode cX11_told 24 = .ok (.iconst (-1), 1) := by decide +kernel
theorem dX11_told_25 : decode cX11_told 25 = .ok (.ireturn, 1) := by decide +kernel
set_option maxRecDepth 20000 in
theorem ggX11_toy_X11_in : GoodIn wsX11_toy wsX11_in := goodIn_r _ [6] (by decide +kernel) (by decide +kernel)
set_option maxRecDepth 20000 in
theorem gX11_toy_X11_in : GoodIn wsX11_toy (va_wsS RX11 60 yX11_in wsX11_in) := goodIn_app (goodIn_of _ (by decide +kernel)) ggX11_toy_X11_in
theorem dX11_toy_0 : decode cX11_toy 0 = .ok (.aload_n 0, 1) := by decide +kernel
theorem dX11_toy_1 : decode cX11_toy 1 = .ok (.iconst 0, 1) := by decide +kernel
theorem dX11_toy_2 : decode cX11_toy 2 = .ok (.putfield 56, 3) := by decide +kernel
theorem dX11_toy_5 : decode cX11_toy 5 = .ok (.iload_n 1, 1) := by decide +kernel
theorem dX11_toy_6 : decode cX11_toy 6 = .ok (.iconst 0, 1) := by decide +kernel
theorem dX11_toy_7 : decode cX11_toy 7 = .ok (.iconst 2, 1) := by decide +kernel
theorem dX11_toy_8 : decode cX11_toy 8 = .ok (.invokestatic 60, 3) := by decide +kernel
theorem dX11_toy_11 : decode cX11_toy 11 = .ok (.ifCond .eq 40, 3) := by decide +kernel
theorem dX11_toy_14 : decode cX11_toy 14 = .ok (.iload_n 2, 1) := by decide +kernel
theorem dX11_toy_15 : decode cX11_toy 15 = .ok (.iload_n 1, 1) := by decide +kernel
theorem dX11_toy_16 : decode cX11_toy 16 = .ok (.iconst 2, 1) := by decide +kernel
theorem dX11_toy_17 : decode cX11_toy 17 = .ok (.if_icmp .ne 7, 3) := by decide +kernel
theorem dX11_toy_20 : decode cX11_toy 20 = .ok (.iconst 0, 1) := by decide +kernel
theorem dX11_toy_21 : decode cX11_toy 21 = .ok (.goto 4, 3) := by decide +kernel
theorem dX11_toy_24 : decode cX11_toy 24 = .ok (.iconst 1, 1) := by decide +kernel
theorem dX11_toy_25 : decode cX11_toy 25 = .ok (.iload_n 1, 1) := by decide +kernel
theorem dX11_toy_26 : decode cX11_toy 26 = .ok (.ifCond .ne 7, 3) := by decide +kernel
theorem dX11_toy_29 : decode cX11_toy 29 = .ok (.iconst 3, 1) := by decide +kernel
theorem dX11_toy_30 : decode cX11_toy 30 = .ok (.goto 15, 3) := by decide +kernel
theorem dX11_toy_33 : decode cX11_toy 33 = .ok (.iload_n 1, 1) := by decide +kernel
theorem dX11_toy_34 : decode cX11_toy 34 = .ok (.iconst 1, 1) := by decide +kernel
theorem dX11_toy_35 : decode cX11_toy 35 = .ok (.if_icmp .ne 8, 3) := by decide +kernel
theorem dX11_toy_38 : decode cX11_toy 38 = .ok (.bipush 7, 2) := by decide +kernel
theorem dX11_toy_40 : decode cX11_toy 40 = .ok (.goto 5, 3) := by decide +kernel
theorem dX11_toy_43 : decode cX11_toy 43 = .ok (.bipush 9, 2) := by decide +kernel
theorem dX11_toy_45 : decode cX11_toy 45 = .ok (.invokestatic 60, 3) := by decide +kernel
theorem dX11_toy_48 : decode cX11_toy 48 = .ok (.ifCond .ne 5, 3) := by decide +kernel
theorem dX11_toy_51 : decode cX11_toy 51 = .ok (.iconst (-1), 1) := by decide +kernel
theorem dX11_toy_52 : decode cX11_toy 52 = .ok (.ireturn, 1) := by decide +kernel
theorem dX11_toy_53 : decode cX11_toy 53 = .ok (.aload_n 0, 1) := by decide +kernel
theorem dX11_toy_54 : decode cX11_toy 54 = .ok (.getfield 13, 3) := by decide +kernel
theorem dX11_toy_57 : decode cX11_toy 57 = .ok (.iconst 2, 1) := by decide +kernel
theorem dX11_toy_58 : decode cX11_toy 58 = .ok (.iload_n 1, 1) := by decide +kernel
theorem dX11_toy_59 : decode cX11_toy 59 = .ok (.iadd, 1) := by decide +kernel
theorem dX11_toy_60 : decode cX11_toy 60 = .ok (.iaload, 1) := by decide +kernel
theorem dX11_toy_61 : decode cX11_toy 61 = .ok (.istore_n 3, 1) := by decide +kernel
theorem dX11_toy_62 : decode cX11_toy 62 = .ok (.aload_n 0, 1) := by decide +kernel
theorem dX11_toy_63 : decode cX11_toy 63 = .ok (.getfield 13, 3) := by decide +kernel
theorem dX11_toy_66 : decode cX11_toy 66 = .ok (.iconst 2, 1) := by decide +kernel
theorem dX11_toy_67 : decode cX11_toy 67 = .ok (.iload_n 1, 1) := by decide +kernel
theorem dX11_toy_68 : decode cX11_toy 68 = .ok (.iadd, 1) := by decide +kernel
theorem dX11_toy_69 : decode cX11_toy 69 = .ok (.iload_n 2, 1) := by decide +kernel
theorem dX11_toy_70 : decode cX11_toy 70 = .ok (.iastore, 1) := by decide +kernel
theorem dX11_toy_71 : decode cX11_toy 71 = .ok (.iload_n 3, 1) := by decide +kernel
theorem dX11_toy_72 : decode cX11_toy 72 = .ok (.ireturn, 1) := by decide +kernel
theorem dX11_aside_0 : decode cX11_aside 0 = .ok (.iload_n 0, 1) := by decide +kernel
theorem dX11_aside_1 : decode cX11_aside 1 = .ok (.bipush 7, 2) := by decide +kernel
theorem dX11_aside_3 : decode cX11_aside 3 = .ok (.iand, 1) := by decide +kernel
theorem dX11_aside_4 : decode cX11_aside 4 = .ok (.istore_n 1, 1) := by decide +kernel
theorem dX11_aside_5 : decode cX11_aside 5 = .ok (.iload_n 1, 1) := by decide +kernel
theorem dX11_aside_6 : decode cX11_aside 6 = .ok (.ifCond .le 12, 3) := by decide +kernel
theorem dX11_aside_9 : decode cX11_aside 9 = .ok (.iload_n 1, 1) := by decide +kernel
theorem dX11_aside_10 : decode cX11_aside 10 = .ok (.iconst 4, 1) := by decide +kernel
theorem dX11_aside_11 : decode cX11_aside 11 = .ok (.if_icmp .ge 7, 3) := by decide +kernel
theorem dX11_aside_14 : decode cX11_aside 14 = .ok (.iconst 1, 1) := by decide +kernel
theorem dX11_aside_15 : decode cX11_aside 15 = .ok (.goto 13, 3) := by decide +kernel
theorem dX11_aside_18 : decode cX11_aside 18 = .ok (.iload_n 1, 1) := by decide +kernel
theorem dX11_aside_19 : decode cX11_aside 19 = .ok (.iconst 4, 1) := by decide +kernel
theorem dX11_aside_20 : decode cX11_aside 20 = .ok (.if_icmp .le 7, 3) := by decide +kernel
theorem dX11_aside_23 : decode cX11_aside 23 = .ok (.iconst (-1), 1) := by decide +kernel
theorem dX11_aside_24 : decode cX11_aside 24 = .ok (.goto 4, 3) := by decide +kernel
theorem dX11_aside_27 : decode cX11_aside 27 = .ok (.iconst 0, 1) := by decide +kernel
theorem dX11_aside_28 : decode cX11_aside 28 = .ok (.ireturn, 1) := by decide +kernel
set_option maxRecDepth 20000 in
theorem ggX11_along_X11_aside : GoodIn wsX11_along wsX11_aside := goodIn_r _ [4] (by decide +kernel) (by decide +kernel)
set_option maxRecDepth 20000 in
theorem gX11_along_X11_aside : GoodIn wsX11_along (va_wsS RX11 134 yX11_aside wsX11_aside) := goodIn_app (goodIn_of _ (by decide +kernel)) ggX11_along_X11_aside
theorem dX11_along_0 : decode cX11_along 0 = .ok (.iload_n 0, 1) := by decide +kernel
theorem dX11_along_1 : decode cX11_along 1 = .ok (.bipush 6, 2) := by decide +kernel
theorem dX11_along_3 : decode cX11_along 3 = .ok (.iadd, 1) := by decide +kernel
theorem dX11_along_4 : decode cX11_along 4 = .ok (.invokestatic 134, 3) := by decide +kernel
theorem dX11_along_7 : decode cX11_along 7 = .ok (.ireturn, 1) := by decide +kernel
set_option maxRecDepth 20000 in
theorem ggX11_seesEdge_X11_aside : GoodIn wsX11_seesEdge wsX11_aside := goodIn_r _ [5] (by decide +kernel) (by decide +kernel)
set_option maxRecDepth 20000 in
theorem gX11_seesEdge_X11_aside : GoodIn wsX11_seesEdge (va_wsS RX11 134 yX11_aside wsX11_aside) := goodIn_app (goodIn_of _ (by decide +kernel)) ggX11_seesEdge_X11_aside
set_option maxRecDepth 20000 in
theorem ggX11_seesEdge_X11_along : GoodIn wsX11_seesEdge wsX11_along := goodIn_r _ [8, 2, 3, 4, 5] (by decide +kernel) (by decide +kernel)
set_option maxRecDepth 20000 in
theorem gX11_seesEdge_X11_along : GoodIn wsX11_seesEdge (va_wsS RX11 137 yX11_along wsX11_along) := goodIn_app (goodIn_of _ (by decide +kernel)) ggX11_seesEdge_X11_along
set_option maxRecDepth 20000 in
theorem ggX11_seesEdge_X11_isWood : GoodIn wsX11_seesEdge wsX11_isWood := goodIn_r _ [12, 13, 14, 15, 4, 16, 1, 17, 18, 19, 20, 21, 22, 23, 24, 25, 26, 27, 28, 29, 30, 31, 32, 33, 34, 35, 36, 37, 38, 39, 40, 41, 42, 43, 44, 45, 46, 47, 48, 49, 50, 51, 52] (by decide +kernel) (by decide +kernel)
set_option maxRecDepth 20000 in
theorem gX11_seesEdge_X11_isWood : GoodIn wsX11_seesEdge (wsV RX11 140 RX11 yX11_isWood wsX11_isWood) := goodIn_app (goodIn_of _ (by decide +kernel)) ggX11_seesEdge_X11_isWood
theorem dX11_seesEdge_0 : decode cX11_seesEdge 0 = .ok (.aload_n 0, 1) := by decide +kernel
theorem dX11_seesEdge_1 : decode cX11_seesEdge 1 = .ok (.aload_n 1, 1) := by decide +kernel
theorem dX11_seesEdge_2 : decode cX11_seesEdge 2 = .ok (.iconst 0, 1) := by decide +kernel
theorem dX11_seesEdge_3 : decode cX11_seesEdge 3 = .ok (.iaload, 1) := by decide +kernel
theorem dX11_seesEdge_4 : decode cX11_seesEdge 4 = .ok (.aload_n 0, 1) := by decide +kernel
theorem dX11_seesEdge_5 : decode cX11_seesEdge 5 = .ok (.getfield 13, 3) := by decide +kernel
theorem dX11_seesEdge_8 : decode cX11_seesEdge 8 = .ok (.iconst 2, 1) := by decide +kernel
theorem dX11_seesEdge_9 : decode cX11_seesEdge 9 = .ok (.iaload, 1) := by decide +kernel
theorem dX11_seesEdge_10 : decode cX11_seesEdge 10 = .ok (.iload_n 2, 1) := by decide +kernel
theorem dX11_seesEdge_11 : decode cX11_seesEdge 11 = .ok (.invokestatic 134, 3) := by decide +kernel
theorem dX11_seesEdge_14 : decode cX11_seesEdge 14 = .ok (.imul, 1) := by decide +kernel
theorem dX11_seesEdge_15 : decode cX11_seesEdge 15 = .ok (.iadd, 1) := by decide +kernel
theorem dX11_seesEdge_16 : decode cX11_seesEdge 16 = .ok (.aload_n 1, 1) := by decide +kernel
theorem dX11_seesEdge_17 : decode cX11_seesEdge 17 = .ok (.iconst 1, 1) := by decide +kernel
theorem dX11_seesEdge_18 : decode cX11_seesEdge 18 = .ok (.iaload, 1) := by decide +kernel
theorem dX11_seesEdge_19 : decode cX11_seesEdge 19 = .ok (.aload_n 0, 1) := by decide +kernel
theorem dX11_seesEdge_20 : decode cX11_seesEdge 20 = .ok (.getfield 13, 3) := by decide +kernel
theorem dX11_seesEdge_23 : decode cX11_seesEdge 23 = .ok (.iconst 2, 1) := by decide +kernel
theorem dX11_seesEdge_24 : decode cX11_seesEdge 24 = .ok (.iaload, 1) := by decide +kernel
theorem dX11_seesEdge_25 : decode cX11_seesEdge 25 = .ok (.iload_n 2, 1) := by decide +kernel
theorem dX11_seesEdge_26 : decode cX11_seesEdge 26 = .ok (.invokestatic 137, 3) := by decide +kernel
theorem dX11_seesEdge_29 : decode cX11_seesEdge 29 = .ok (.imul, 1) := by decide +kernel
theorem dX11_seesEdge_30 : decode cX11_seesEdge 30 = .ok (.iadd, 1) := by decide +kernel
theorem dX11_seesEdge_31 : decode cX11_seesEdge 31 = .ok (.invokevirtual 140, 3) := by decide +kernel
theorem dX11_seesEdge_34 : decode cX11_seesEdge 34 = .ok (.ifCond .ne 7, 3) := by decide +kernel
theorem dX11_seesEdge_37 : decode cX11_seesEdge 37 = .ok (.iconst 1, 1) := by decide +kernel
theorem dX11_seesEdge_38 : decode cX11_seesEdge 38 = .ok (.goto 4, 3) := by decide +kernel
theorem dX11_seesEdge_41 : decode cX11_seesEdge 41 = .ok (.iconst 0, 1) := by decide +kernel
theorem dX11_seesEdge_42 : decode cX11_seesEdge 42 = .ok (.ireturn, 1) := by decide +kernel
set_option maxRecDepth 20000 in
theorem ggX11_meetsBook_X11_aside : GoodIn wsX11_meetsBook wsX11_aside := goodIn_r _ [4] (by decide +kernel) (by decide +kernel)
set_option maxRecDepth 20000 in
theorem gX11_meetsBook_X11_aside : GoodIn wsX11_meetsBook (va_wsS RX11 134 yX11_aside wsX11_aside) := goodIn_app (goodIn_of _ (by decide +kernel)) ggX11_meetsBook_X11_aside
set_option maxRecDepth 20000 in
theorem ggX11_meetsBook_X11_along : GoodIn wsX11_meetsBook wsX11_along := goodIn_r _ [7, 1, 2, 3, 4] (by decide +kernel) (by decide +kernel)
set_option maxRecDepth 20000 in
theorem gX11_meetsBook_X11_along : GoodIn wsX11_meetsBook (va_wsS RX11 137 yX11_along wsX11_along) := goodIn_app (goodIn_of _ (by decide +kernel)) ggX11_meetsBook_X11_along
set_option maxRecDepth 20000 in
theorem ggX11_meetsBook_X11_at : GoodIn wsX11_meetsBook wsX11_at := goodIn_r _ [11, 12, 13, 14, 15, 3, 16, 17, 18, 19, 20, 21, 22, 23, 24, 25, 26, 27, 28, 29, 30, 31, 32, 33, 34, 35, 36, 37, 38, 39, 40, 41, 42, 43, 44, 45, 46, 47, 48] (by decide +kernel) (by decide +kernel)
set_option maxRecDepth 20000 in
theorem gX11_meetsBook_X11_at : GoodIn wsX11_meetsBook (wsV RX11 131 RX11 yX11_at wsX11_at) := goodIn_app (goodIn_of _ (by decide +kernel)) ggX11_meetsBook_X11_at
theorem dX11_meetsBook_0 : decode cX11_meetsBook 0 = .ok (.aload_n 0, 1) := by decide +kernel
theorem dX11_meetsBook_1 : decode cX11_meetsBook 1 = .ok (.aload_n 1, 1) := by decide +kernel
theorem dX11_meetsBook_2 : decode cX11_meetsBook 2 = .ok (.iconst 0, 1) := by decide +kernel
theorem dX11_meetsBook_3 : decode cX11_meetsBook 3 = .ok (.iaload, 1) := by decide +kernel
theorem dX11_meetsBook_4 : decode cX11_meetsBook 4 = .ok (.aload_n 1, 1) := by decide +kernel
theorem dX11_meetsBook_5 : decode cX11_meetsBook 5 = .ok (.iconst 2, 1) := by decide +kernel
theorem dX11_meetsBook_6 : decode cX11_meetsBook 6 = .ok (.iaload, 1) := by decide +kernel
theorem dX11_meetsBook_7 : decode cX11_meetsBook 7 = .ok (.invokestatic 134, 3) := by decide +kernel
theorem dX11_meetsBook_10 : decode cX11_meetsBook 10 = .ok (.iadd, 1) := by decide +kernel
theorem dX11_meetsBook_11 : decode cX11_meetsBook 11 = .ok (.aload_n 1, 1) := by decide +kernel
theorem dX11_meetsBook_12 : decode cX11_meetsBook 12 = .ok (.iconst 1, 1) := by decide +kernel
theorem dX11_meetsBook_13 : decode cX11_meetsBook 13 = .ok (.iaload, 1) := by decide +kernel
theorem dX11_meetsBook_14 : decode cX11_meetsBook 14 = .ok (.aload_n 1, 1) := by decide +kernel
theorem dX11_meetsBook_15 : decode cX11_meetsBook 15 = .ok (.iconst 2, 1) := by decide +kernel
theorem dX11_meetsBook_16 : decode cX11_meetsBook 16 = .ok (.iaload, 1) := by decide +kernel
theorem dX11_meetsBook_17 : decode cX11_meetsBook 17 = .ok (.invokestatic 137, 3) := by decide +kernel
theorem dX11_meetsBook_20 : decode cX11_meetsBook 20 = .ok (.iadd, 1) := by decide +kernel
theorem dX11_meetsBook_21 : decode cX11_meetsBook 21 = .ok (.invokevirtual 131, 3) := by decide +kernel
theorem dX11_meetsBook_24 : decode cX11_meetsBook 24 = .ok (.iconst 2, 1) := by decide +kernel
theorem dX11_meetsBook_25 : decode cX11_meetsBook 25 = .ok (.if_icmp .ne 7, 3) := by decide +kernel
theorem dX11_meetsBook_28 : decode cX11_meetsBook 28 = .ok (.iconst 1, 1) := by decide +kernel
theorem dX11_meetsBook_29 : decode cX11_meetsBook 29 = .ok (.goto 4, 3) := by decide +kernel
theorem dX11_meetsBook_32 : decode cX11_meetsBook 32 = .ok (.iconst 0, 1) := by decide +kernel
theorem dX11_meetsBook_33 : decode cX11_meetsBook 33 = .ok (.ireturn, 1) := by decide +kernel
theorem dX11_draws_0 : decode cX11_draws 0 = .ok (.aload_n 0, 1) := by decide +kernel
theorem dX11_draws_1 : decode cX11_draws 1 = .ok (.getfield 19, 3) := by decide +kernel
theorem dX11_draws_4 : decode cX11_draws 4 = .ok (.bipush 11, 2) := by decide +kernel
theorem dX11_draws_6 : decode cX11_draws 6 = .ok (.aload_n 0, 1) := by decide +kernel
theorem dX11_draws_7 : decode cX11_draws 7 = .ok (.getfield 19, 3) := by decide +kernel
theorem dX11_draws_10 : decode cX11_draws 10 = .ok (.bipush 11, 2) := by decide +kernel
theorem dX11_draws_12 : decode cX11_draws 12 = .ok (.iaload, 1) := by decide +kernel
theorem dX11_draws_13 : decode cX11_draws 13 = .ok (.ldc 144, 2) := by decide +kernel
theorem dX11_draws_15 : decode cX11_draws 15 = .ok (.imul, 1) := by decide +kernel
theorem dX11_draws_16 : decode cX11_draws 16 = .ok (.sipush 12345, 3) := by decide +kernel
theorem dX11_draws_19 : decode cX11_draws 19 = .ok (.iadd, 1) := by decide +kernel
theorem dX11_draws_20 : decode cX11_draws 20 = .ok (.iastore, 1) := by decide +kernel
theorem dX11_draws_21 : decode cX11_draws 21 = .ok (.aload_n 0, 1) := by decide +kernel
theorem dX11_draws_22 : decode cX11_draws 22 = .ok (.getfield 19, 3) := by decide +kernel
theorem dX11_draws_25 : decode cX11_draws 25 = .ok (.bipush 11, 2) := by decide +kernel
theorem dX11_draws_27 : decode cX11_draws 27 = .ok (.iaload, 1) := by decide +kernel
theorem dX11_draws_28 : decode cX11_draws 28 = .ok (.bipush 16, 2) := by decide +kernel
theorem dX11_draws_30 : decode cX11_draws 30 = .ok (.ishr, 1) := by decide +kernel
theorem dX11_draws_31 : decode cX11_draws 31 = .ok (.ldc 145, 2) := by decide +kernel
theorem dX11_draws_33 : decode cX11_draws 33 = .ok (.iand, 1) := by decide +kernel
theorem dX11_draws_34 : decode cX11_draws 34 = .ok (.bipush 7, 2) := by decide +kernel
theorem dX11_draws_36 : decode cX11_draws 36 = .ok (.irem, 1) := by decide +kernel
theorem dX11_draws_37 : decode cX11_draws 37 = .ok (.ireturn, 1) := by decide +kernel
set_option maxRecDepth 20000 in
theorem ggX11_steps_X11_meetsBook : GoodIn wsX11_steps wsX11_meetsBook := goodIn_r _ [7, 8, 9, 6, 10, 11, 12, 13, 14, 15, 16, 17, 2, 18, 19, 20, 21, 37, 38, 39, 40, 41, 42, 43, 44, 45, 46, 47, 48, 49, 50, 51, 52, 53, 54, 55, 56, 57, 58, 59, 60, 61, 62, 63, 64, 65, 66, 67, 68] (by decide +kernel) (by decide +kernel)
set_option maxRecDepth 20000 in
theorem gX11_steps_X11_meetsBook : GoodIn wsX11_steps (wsV RX11 146 RX11 yX11_meetsBook wsX11_meetsBook) := goodIn_app (goodIn_of _ (by decide +kernel)) ggX11_steps_X11_meetsBook
set_option maxRecDepth 20000 in
theorem ggX11_steps_X11_seesEdge : GoodIn wsX11_steps wsX11_seesEdge := goodIn_r _ [25, 2, 8, 9, 6, 10, 11, 12, 13, 26, 27, 28, 29, 14, 15, 16, 17, 18, 19, 20, 21, 37, 38, 39, 40, 41, 42, 43, 44, 45, 46, 47, 48, 49, 50, 51, 52, 53, 54, 55, 56, 57, 58, 59, 60, 61, 62, 63, 64, 65, 66, 67, 68] (by decide +kernel) (by decide +kernel)
set_option maxRecDepth 20000 in
theorem gX11_steps_X11_seesEdge : GoodIn wsX11_steps (wsV RX11 150 RX11 yX11_seesEdge wsX11_seesEdge) := goodIn_app (goodIn_of _ (by decide +kernel)) ggX11_steps_X11_seesEdge
set_option maxRecDepth 20000 in
theorem ggX11_steps_X11_draws : GoodIn wsX11_steps wsX11_draws := goodIn_r _ [33, 34, 35, 36, 37, 38, 39, 40, 41, 42, 43, 44, 45, 46, 47, 48, 49, 50, 51, 52, 53, 54, 55, 56, 57, 58, 59, 60, 61, 62, 63, 64, 65, 66, 67, 68] (by decide +kernel) (by decide +kernel)
set_option maxRecDepth 20000 in
theorem gX11_steps_X11_draws : GoodIn wsX11_steps (wsV RX11 158 RX11 yX11_draws wsX11_draws) := goodIn_app (goodIn_of _ (by decide +kernel)) ggX11_steps_X11_draws
set_option maxRecDepth 20000 in
theorem ggX11_steps_X11_aside : GoodIn wsX11_steps wsX11_aside := goodIn_r _ [10] (by decide +kernel) (by decide +kernel)
set_option maxRecDepth 20000 in
theorem gX11_steps_X11_aside : GoodIn wsX11_steps (va_wsS RX11 134 yX11_aside wsX11_aside) := goodIn_app (goodIn_of _ (by decide +kernel)) ggX11_steps_X11_aside
set_option maxRecDepth 20000 in
theorem ggX11_steps_X11_along : GoodIn wsX11_steps wsX11_along := goodIn_r _ [13, 8, 9, 6, 10] (by decide +kernel) (by decide +kernel)
set_option maxRecDepth 20000 in
theorem gX11_steps_X11_along : GoodIn wsX11_steps (va_wsS RX11 137 yX11_along wsX11_along) := goodIn_app (goodIn_of _ (by decide +kernel)) ggX11_steps_X11_along
set_option maxRecDepth 20000 in
theorem ggX11_steps_X11_isWood : GoodIn wsX11_steps wsX11_isWood := goodIn_r _ [29, 14, 15, 16, 6, 17, 2, 18, 19, 20, 21, 37, 38, 39, 40, 41, 42, 43, 44, 45, 46, 47, 48, 49, 50, 51, 52, 53, 54, 55, 56, 57, 58, 59, 60, 61, 62, 63, 64, 65, 66, 67, 68] (by decide +kernel) (by decide +kernel)
set_option maxRecDepth 20000 in
theorem gX11_steps_X11_isWood : GoodIn wsX11_steps (wsV RX11 140 RX11 yX11_isWood wsX11_isWood) := goodIn_app (goodIn_of _ (by decide +kernel)) ggX11_steps_X11_isWood
theorem dX11_steps_0 : decode cX11_steps 0 = .ok (.aload_n 0, 1) := by decide +kernel
theorem dX11_steps_1 : decode cX11_steps 1 = .ok (.aload_n 1, 1) := by decide +kernel
theorem dX11_steps_2 : decode cX11_steps 2 = .ok (.invokevirtual 146, 3) := by decide +kernel
theorem dX11_steps_5 : decode cX11_steps 5 = .ok (.ifCond .ne 14, 3) := by decide +kernel
theorem dX11_steps_8 : decode cX11_steps 8 = .ok (.aload_n 0, 1) := by decide +kernel
theorem dX11_steps_9 : decode cX11_steps 9 = .ok (.aload_n 1, 1) := by decide +kernel
theorem dX11_steps_10 : decode cX11_steps 10 = .ok (.aload_n 1, 1) := by decide +kernel
theorem dX11_steps_11 : decode cX11_steps 11 = .ok (.iconst 2, 1) := by decide +kernel
theorem dX11_steps_12 : decode cX11_steps 12 = .ok (.iaload, 1) := by decide +kernel
theorem dX11_steps_13 : decode cX11_steps 13 = .ok (.invokevirtual 150, 3) := by decide +kernel
theorem dX11_steps_16 : decode cX11_steps 16 = .ok (.ifCond .eq 39, 3) := by decide +kernel
theorem dX11_steps_19 : decode cX11_steps 19 = .ok (.aload_n 0, 1) := by decide +kernel
theorem dX11_steps_20 : decode cX11_steps 20 = .ok (.getfield 154, 3) := by decide +kernel
theorem dX11_steps_23 : decode cX11_steps 23 = .ok (.ifCond .eq 12, 3) := by decide +kernel
theorem dX11_steps_26 : decode cX11_steps 26 = .ok (.iconst 1, 1) := by decide +kernel
theorem dX11_steps_27 : decode cX11_steps 27 = .ok (.aload_n 0, 1) := by decide +kernel
theorem dX11_steps_28 : decode cX11_steps 28 = .ok (.invokevirtual 158, 3) := by decide +kernel
theorem dX11_steps_31 : decode cX11_steps 31 = .ok (.iadd, 1) := by decide +kernel
theorem dX11_steps_32 : decode cX11_steps 32 = .ok (.goto 9, 3) := by decide +kernel
theorem dX11_steps_35 : decode cX11_steps 35 = .ok (.aload_n 0, 1) := by decide +kernel
theorem dX11_steps_36 : decode cX11_steps 36 = .ok (.getfield 13, 3) := by decide +kernel
theorem dX11_steps_39 : decode cX11_steps 39 = .ok (.iconst 3, 1) := by decide +kernel
theorem dX11_steps_40 : decode cX11_steps 40 = .ok (.iaload, 1) := by decide +kernel
theorem dX11_steps_41 : decode cX11_steps 41 = .ok (.istore_n 2, 1) := by decide +kernel
theorem dX11_steps_42 : decode cX11_steps 42 = .ok (.aload_n 1, 1) := by decide +kernel
theorem dX11_steps_43 : decode cX11_steps 43 = .ok (.iconst 2, 1) := by decide +kernel
theorem dX11_steps_44 : decode cX11_steps 44 = .ok (.aload_n 1, 1) := by decide +kernel
theorem dX11_steps_45 : decode cX11_steps 45 = .ok (.iconst 2, 1) := by decide +kernel
theorem dX11_steps_46 : decode cX11_steps 46 = .ok (.iaload, 1) := by decide +kernel
theorem dX11_steps_47 : decode cX11_steps 47 = .ok (.iload_n 2, 1) := by decide +kernel
theorem dX11_steps_48 : decode cX11_steps 48 = .ok (.iadd, 1) := by decide +kernel
theorem dX11_steps_49 : decode cX11_steps 49 = .ok (.bipush 8, 2) := by decide +kernel
theorem dX11_steps_51 : decode cX11_steps 51 = .ok (.irem, 1) := by decide +kernel
theorem dX11_steps_52 : decode cX11_steps 52 = .ok (.iastore, 1) := by decide +kernel
theorem dX11_steps_53 : decode cX11_steps 53 = .ok (.iconst 0, 1) := by decide +kernel
theorem dX11_steps_54 : decode cX11_steps 54 = .ok (.ireturn, 1) := by decide +kernel
theorem dX11_steps_55 : decode cX11_steps 55 = .ok (.aload_n 1, 1) := by decide +kernel
theorem dX11_steps_56 : decode cX11_steps 56 = .ok (.iconst 2, 1) := by decide +kernel
theorem dX11_steps_57 : decode cX11_steps 57 = .ok (.iaload, 1) := by decide +kernel
theorem dX11_steps_58 : decode cX11_steps 58 = .ok (.istore_n 2, 1) := by decide +kernel
theorem dX11_steps_59 : decode cX11_steps 59 = .ok (.aload_n 1, 1) := by decide +kernel
theorem dX11_steps_60 : decode cX11_steps 60 = .ok (.iconst 0, 1) := by decide +kernel
theorem dX11_steps_61 : decode cX11_steps 61 = .ok (.dup2, 1) := by decide +kernel
theorem dX11_steps_62 : decode cX11_steps 62 = .ok (.iaload, 1) := by decide +kernel
theorem dX11_steps_63 : decode cX11_steps 63 = .ok (.iload_n 2, 1) := by decide +kernel
theorem dX11_steps_64 : decode cX11_steps 64 = .ok (.invokestatic 134, 3) := by decide +kernel
theorem dX11_steps_67 : decode cX11_steps 67 = .ok (.iadd, 1) := by decide +kernel
theorem dX11_steps_68 : decode cX11_steps 68 = .ok (.iastore, 1) := by decide +kernel
theorem dX11_steps_69 : decode cX11_steps 69 = .ok (.aload_n 1, 1) := by decide +kernel
theorem dX11_steps_70 : decode cX11_steps 70 = .ok (.iconst 1, 1) := by decide +kernel
theorem dX11_steps_71 : decode cX11_steps 71 = .ok (.dup2, 1) := by decide +kernel
theorem dX11_steps_72 : decode cX11_steps 72 = .ok (.iaload, 1) := by decide +kernel
theorem dX11_steps_73 : decode cX11_steps 73 = .ok (.iload_n 2, 1) := by decide +kernel
theorem dX11_steps_74 : decode cX11_steps 74 = .ok (.invokestatic 137, 3) := by decide +kernel
theorem dX11_steps_77 : decode cX11_steps 77 = .ok (.iadd, 1) := by decide +kernel
theorem dX11_steps_78 : decode cX11_steps 78 = .ok (.iastore, 1) := by decide +kernel
theorem dX11_steps_79 : decode cX11_steps 79 = .ok (.aload_n 0, 1) := by decide +kernel
theorem dX11_steps_80 : decode cX11_steps 80 = .ok (.aload_n 1, 1) := by decide +kernel
theorem dX11_steps_81 : decode cX11_steps 81 = .ok (.iconst 0, 1) := by decide +kernel
theorem dX11_steps_82 : decode cX11_steps 82 = .ok (.iaload, 1) := by decide +kernel
theorem dX11_steps_83 : decode cX11_steps 83 = .ok (.aload_n 1, 1) := by decide +kernel
theorem dX11_steps_84 : decode cX11_steps 84 = .ok (.iconst 1, 1) := by decide +kernel
theorem dX11_steps_85 : decode cX11_steps 85 = .ok (.iaload, 1) := by decide +kernel
theorem dX11_steps_86 : decode cX11_steps 86 = .ok (.invokevirtual 140, 3) := by decide +kernel
theorem dX11_steps_89 : decode cX11_steps 89 = .ok (.ifCond .ne 5, 3) := by decide +kernel
theorem dX11_steps_92 : decode cX11_steps 92 = .ok (.iconst (-1), 1) := by decide +kernel
theorem dX11_steps_93 : decode cX11_steps 93 = .ok (.ireturn, 1) := by decide +kernel
theorem dX11_steps_94 : decode cX11_steps 94 = .ok (.aload_n 0, 1) := by decide +kernel
theorem dX11_steps_95 : decode cX11_steps 95 = .ok (.getfield 13, 3) := by decide +kernel
theorem dX11_steps_98 : decode cX11_steps 98 = .ok (.iconst 4, 1) := by decide +kernel
theorem dX11_steps_99 : decode cX11_steps 99 = .ok (.iaload, 1) := by decide +kernel
theorem dX11_steps_100 : decode cX11_steps 100 = .ok (.ifCond .le 37, 3) := by decide +kernel
theorem dX11_steps_103 : decode cX11_steps 103 = .ok (.aload_n 1, 1) := by decide +kernel
theorem dX11_steps_104 : decode cX11_steps 104 = .ok (.iconst 3, 1) := by decide +kernel
theorem dX11_steps_105 : decode cX11_steps 105 = .ok (.dup2, 1) := by decide +kernel
theorem dX11_steps_106 : decode cX11_steps 106 = .ok (.iaload, 1) := by decide +kernel
theorem dX11_steps_107 : decode cX11_steps 107 = .ok (.iconst 1, 1) := by decide +kernel
theorem dX11_steps_108 : decode cX11_steps 108 = .ok (.iadd, 1) := by decide +kernel
theorem dX11_steps_109 : decode cX11_steps 109 = .ok (.iastore, 1) := by decide +kernel
theorem dX11_steps_110 : decode cX11_steps 110 = .ok (.aload_n 1, 1) := by decide +kernel
theorem dX11_steps_111 : decode cX11_steps 111 = .ok (.iconst 3, 1) := by decide +kernel
theorem dX11_steps_112 : decode cX11_steps 112 = .ok (.iaload, 1) := by decide +kernel
theorem dX11_steps_113 : decode cX11_steps 113 = .ok (.aload_n 0, 1) := by decide +kernel
theorem dX11_steps_114 : decode cX11_steps 114 = .ok (.getfield 13, 3) := by decide +kernel
theorem dX11_steps_117 : decode cX11_steps 117 = .ok (.iconst 4, 1) := by decide +kernel
theorem dX11_steps_118 : decode cX11_steps 118 = .ok (.iaload, 1) := by decide +kernel
theorem dX11_steps_119 : decode cX11_steps 119 = .ok (.if_icmp .lt 18, 3) := by decide +kernel
theorem dX11_steps_122 : decode cX11_steps 122 = .ok (.aload_n 1, 1) := by decide +kernel
theorem dX11_steps_123 : decode cX11_steps 123 = .ok (.iconst 2, 1) := by decide +kernel
theorem dX11_steps_124 : decode cX11_steps 124 = .ok (.aload_n 1, 1) := by decide +kernel
theorem dX11_steps_125 : decode cX11_steps 125 = .ok (.iconst 2, 1) := by decide +kernel
theorem dX11_steps_126 : decode cX11_steps 126 = .ok (.iaload, 1) := by decide +kernel
theorem dX11_steps_127 : decode cX11_steps 127 = .ok (.iconst 1, 1) := by decide +kernel
theorem dX11_steps_128 : decode cX11_steps 128 = .ok (.iadd, 1) := by decide +kernel
theorem dX11_steps_129 : decode cX11_steps 129 = .ok (.bipush 8, 2) := by decide +kernel
theorem dX11_steps_131 : decode cX11_steps 131 = .ok (.irem, 1) := by decide +kernel
theorem dX11_steps_132 : decode cX11_steps 132 = .ok (.iastore, 1) := by decide +kernel
theorem dX11_steps_133 : decode cX11_steps 133 = .ok (.aload_n 1, 1) := by decide +kernel
theorem dX11_steps_134 : decode cX11_steps 134 = .ok (.iconst 3, 1) := by decide +kernel
theorem dX11_steps_135 : decode cX11_steps 135 = .ok (.iconst 0, 1) := by decide +kernel
theorem dX11_steps_136 : decode cX11_steps 136 = .ok (.iastore, 1) := by decide +kernel
theorem dX11_steps_137 : decode cX11_steps 137 = .ok (.iconst 1, 1) := by decide +kernel
theorem dX11_steps_138 : decode cX11_steps 138 = .ok (.ireturn, 1) := by decide +kernel
set_option maxRecDepth 20000 in
theorem ggX11_state_X11_isWood : GoodIn wsX11_state wsX11_isWood := goodIn_r _ [6, 7, 8, 9, 5, 10, 11, 12, 13, 14, 15, 16, 17, 18, 19, 20, 21, 22, 23, 24, 25, 26, 27, 28, 29, 30, 31, 32, 33, 34, 35, 36, 37, 38, 39, 40, 41, 42, 43, 44, 45, 46, 47] (by decide +kernel) (by decide +kernel)
set_option maxRecDepth 20000 in
theorem gX11_state_X11_isWood : GoodIn wsX11_state (wsV RX11 140 RX11 yX11_isWood wsX11_isWood) := goodIn_app (goodIn_of _ (by decide +kernel)) ggX11_state_X11_isWood
theorem dX11_state_0 : decode cX11_state 0 = .ok (.aload_n 0, 1) := by decide +kernel
theorem dX11_state_1 : decode cX11_state 1 = .ok (.aload_n 0, 1) := by decide +kernel
theorem dX11_state_2 : decode cX11_state 2 = .ok (.getfield 19, 3) := by decide +kernel
theorem dX11_state_5 : decode cX11_state 5 = .ok (.iconst 0, 1) := by decide +kernel
theorem dX11_state_6 : decode cX11_state 6 = .ok (.iaload, 1) := by decide +kernel
theorem dX11_state_7 : decode cX11_state 7 = .ok (.aload_n 0, 1) := by decide +kernel
theorem dX11_state_8 : decode cX11_state 8 = .ok (.getfield 19, 3) := by decide +kernel
theorem dX11_state_11 : decode cX11_state 11 = .ok (.iconst 1, 1) := by decide +kernel
theorem dX11_state_12 : decode cX11_state 12 = .ok (.iaload, 1) := by decide +kernel
theorem dX11_state_13 : decode cX11_state 13 = .ok (.invokevirtual 140, 3) := by decide +kernel
theorem dX11_state_16 : decode cX11_state 16 = .ok (.ifCond .ne 7, 3) := by decide +kernel
theorem dX11_state_19 : decode cX11_state 19 = .ok (.iconst 2, 1) := by decide +kernel
theorem dX11_state_20 : decode cX11_state 20 = .ok (.goto 17, 3) := by decide +kernel
theorem dX11_state_23 : decode cX11_state 23 = .ok (.aload_n 0, 1) := by decide +kernel
theorem dX11_state_24 : decode cX11_state 24 = .ok (.getfield 19, 3) := by decide +kernel
theorem dX11_state_27 : decode cX11_state 27 = .ok (.iconst 4, 1) := by decide +kernel
theorem dX11_state_28 : decode cX11_state 28 = .ok (.iaload, 1) := by decide +kernel
theorem dX11_state_29 : decode cX11_state 29 = .ok (.ifCond .ne 7, 3) := by decide +kernel
theorem dX11_state_32 : decode cX11_state 32 = .ok (.iconst 1, 1) := by decide +kernel
theorem dX11_state_33 : decode cX11_state 33 = .ok (.goto 4, 3) := by decide +kernel
theorem dX11_state_36 : decode cX11_state 36 = .ok (.iconst 0, 1) := by decide +kernel
theorem dX11_state_37 : decode cX11_state 37 = .ok (.ireturn, 1) := by decide +kernel
set_option maxRecDepth 20000 in
theorem ggX11_goesStep_X11_meetsBook : GoodIn wsX11_goesStep wsX11_meetsBook := goodIn_r _ [8, 9, 10, 7, 11, 12, 13, 14, 15, 16, 17, 18, 3, 19, 20, 21, 22, 42, 43, 44, 45, 46, 47, 48, 49, 50, 51, 52, 53, 54, 55, 56, 57, 58, 59, 60, 61, 62, 63, 64, 65, 66, 67, 68, 69, 70, 71, 72, 73] (by decide +kernel) (by decide +kernel)
set_option maxRecDepth 20000 in
theorem gX11_goesStep_X11_meetsBook : GoodIn wsX11_goesStep (wsV RX11 146 RX11 yX11_meetsBook wsX11_meetsBook) := goodIn_app (goodIn_of _ (by decide +kernel)) ggX11_goesStep_X11_meetsBook
set_option maxRecDepth 20000 in
theorem ggX11_goesStep_X11_seesEdge : GoodIn wsX11_goesStep wsX11_seesEdge := goodIn_r _ [26, 3, 9, 10, 7, 11, 12, 13, 14, 27, 28, 29, 30, 15, 16, 17, 18, 19, 20, 21, 22, 42, 43, 44, 45, 46, 47, 48, 49, 50, 51, 52, 53, 54, 55, 56, 57, 58, 59, 60, 61, 62, 63, 64, 65, 66, 67, 68, 69, 70, 71, 72, 73] (by decide +kernel) (by decide +kernel)
set_option maxRecDepth 20000 in
theorem gX11_goesStep_X11_seesEdge : GoodIn wsX11_goesStep (wsV RX11 150 RX11 yX11_seesEdge wsX11_seesEdge) := goodIn_app (goodIn_of _ (by decide +kernel)) ggX11_goesStep_X11_seesEdge
set_option maxRecDepth 20000 in
theorem ggX11_goesStep_X11_steps : GoodIn wsX11_goesStep wsX11_steps := goodIn_r _ [34, 35, 3, 4, 5, 6, 7, 8, 9, 10, 11, 12, 13, 14, 15, 16, 17, 18, 19, 20, 21, 22, 23, 24, 25, 26, 27, 28, 29, 30, 36, 37, 38, 39, 1, 40, 41, 42, 43, 44, 45, 46, 47, 48, 49, 50, 51, 52, 53, 54, 55, 56, 57, 58, 59, 60, 61, 62, 63, 64, 65, 66, 67, 68, 69, 70, 71, 72, 73] (by decide +kernel) (by decide +kernel)
set_option maxRecDepth 20000 in
theorem gX11_goesStep_X11_steps : GoodIn wsX11_goesStep (wsV RX11 161 RX11 yX11_steps wsX11_steps) := goodIn_app (goodIn_of _ (by decide +kernel)) ggX11_goesStep_X11_steps
theorem dX11_goesStep_0 : decode cX11_goesStep 0 = .ok (.aload_n 0, 1) := by decide +kernel
theorem dX11_goesStep_1 : decode cX11_goesStep 1 = .ok (.getfield 19, 3) := by decide +kernel
theorem dX11_goesStep_4 : decode cX11_goesStep 4 = .ok (.iconst 4, 1) := by decide +kernel
theorem dX11_goesStep_5 : decode cX11_goesStep 5 = .ok (.dup2, 1) := by decide +kernel
theorem dX11_goesStep_6 : decode cX11_goesStep 6 = .ok (.iaload, 1) := by decide +kernel
theorem dX11_goesStep_7 : decode cX11_goesStep 7 = .ok (.iconst 1, 1) := by decide +kernel
theorem dX11_goesStep_8 : decode cX11_goesStep 8 = .ok (.isub, 1) := by decide +kernel
theorem dX11_goesStep_9 : decode cX11_goesStep 9 = .ok (.iastore, 1) := by decide +kernel
theorem dX11_goesStep_10 : decode cX11_goesStep 10 = .ok (.aload_n 0, 1) := by decide +kernel
theorem dX11_goesStep_11 : decode cX11_goesStep 11 = .ok (.getfield 19, 3) := by decide +kernel
theorem dX11_goesStep_14 : decode cX11_goesStep 14 = .ok (.iconst 5, 1) := by decide +kernel
theorem dX11_goesStep_15 : decode cX11_goesStep 15 = .ok (.dup2, 1) := by decide +kernel
theorem dX11_goesStep_16 : decode cX11_goesStep 16 = .ok (.iaload, 1) := by decide +kernel
theorem dX11_goesStep_17 : decode cX11_goesStep 17 = .ok (.iconst 1, 1) := by decide +kernel
theorem dX11_goesStep_18 : decode cX11_goesStep 18 = .ok (.iadd, 1) := by decide +kernel
theorem dX11_goesStep_19 : decode cX11_goesStep 19 = .ok (.iastore, 1) := by decide +kernel
theorem dX11_goesStep_20 : decode cX11_goesStep 20 = .ok (.iconst 0, 1) := by decide +kernel
theorem dX11_goesStep_21 : decode cX11_goesStep 21 = .ok (.istore_n 1, 1) := by decide +kernel
theorem dX11_goesStep_22 : decode cX11_goesStep 22 = .ok (.iload_n 1, 1) := by decide +kernel
theorem dX11_goesStep_23 : decode cX11_goesStep 23 = .ok (.iconst 4, 1) := by decide +kernel
theorem dX11_goesStep_24 : decode cX11_goesStep 24 = .ok (.if_icmp .ge 21, 3) := by decide +kernel
theorem dX11_goesStep_27 : decode cX11_goesStep 27 = .ok (.aload_n 0, 1) := by decide +kernel
theorem dX11_goesStep_28 : decode cX11_goesStep 28 = .ok (.getfield 29, 3) := by decide +kernel
theorem dX11_goesStep_31 : decode cX11_goesStep 31 = .ok (.iload_n 1, 1) := by decide +kernel
theorem dX11_goesStep_32 : decode cX11_goesStep 32 = .ok (.aload_n 0, 1) := by decide +kernel
theorem dX11_goesStep_33 : decode cX11_goesStep 33 = .ok (.getfield 19, 3) := by decide +kernel
theorem dX11_goesStep_36 : decode cX11_goesStep 36 = .ok (.iload_n 1, 1) := by decide +kernel
theorem dX11_goesStep_37 : decode cX11_goesStep 37 = .ok (.iaload, 1) := by decide +kernel
theorem dX11_goesStep_38 : decode cX11_goesStep 38 = .ok (.iastore, 1) := by decide +kernel
theorem dX11_goesStep_39 : decode cX11_goesStep 39 = .ok (.iinc 1 1, 3) := by decide +kernel
theorem dX11_goesStep_42 : decode cX11_goesStep 42 = .ok (.goto (-20), 3) := by decide +kernel
theorem dX11_goesStep_45 : decode cX11_goesStep 45 = .ok (.aload_n 0, 1) := by decide +kernel
theorem dX11_goesStep_46 : decode cX11_goesStep 46 = .ok (.aload_n 0, 1) := by decide +kernel
theorem dX11_goesStep_47 : decode cX11_goesStep 47 = .ok (.getfield 29, 3) := by decide +kernel
theorem dX11_goesStep_50 : decode cX11_goesStep 50 = .ok (.invokevirtual 146, 3) := by decide +kernel
theorem dX11_goesStep_53 : decode cX11_goesStep 53 = .ok (.istore_n 1, 1) := by decide +kernel
theorem dX11_goesStep_54 : decode cX11_goesStep 54 = .ok (.aload_n 0, 1) := by decide +kernel
theorem dX11_goesStep_55 : decode cX11_goesStep 55 = .ok (.aload_n 0, 1) := by decide +kernel
theorem dX11_goesStep_56 : decode cX11_goesStep 56 = .ok (.getfield 29, 3) := by decide +kernel
theorem dX11_goesStep_59 : decode cX11_goesStep 59 = .ok (.aload_n 0, 1) := by decide +kernel
theorem dX11_goesStep_60 : decode cX11_goesStep 60 = .ok (.getfield 29, 3) := by decide +kernel
theorem dX11_goesStep_63 : decode cX11_goesStep 63 = .ok (.iconst 2, 1) := by decide +kernel
theorem dX11_goesStep_64 : decode cX11_goesStep 64 = .ok (.iaload, 1) := by decide +kernel
theorem dX11_goesStep_65 : decode cX11_goesStep 65 = .ok (.bipush 7, 2) := by decide +kernel
theorem dX11_goesStep_67 : decode cX11_goesStep 67 = .ok (.iadd, 1) := by decide +kernel
theorem dX11_goesStep_68 : decode cX11_goesStep 68 = .ok (.invokevirtual 150, 3) := by decide +kernel
theorem dX11_goesStep_71 : decode cX11_goesStep 71 = .ok (.ifCond .eq 26, 3) := by decide +kernel
theorem dX11_goesStep_74 : decode cX11_goesStep 74 = .ok (.aload_n 0, 1) := by decide +kernel
theorem dX11_goesStep_75 : decode cX11_goesStep 75 = .ok (.aload_n 0, 1) := by decide +kernel
theorem dX11_goesStep_76 : decode cX11_goesStep 76 = .ok (.getfield 29, 3) := by decide +kernel
theorem dX11_goesStep_79 : decode cX11_goesStep 79 = .ok (.aload_n 0, 1) := by decide +kernel
theorem dX11_goesStep_80 : decode cX11_goesStep 80 = .ok (.getfield 29, 3) := by decide +kernel
theorem dX11_goesStep_83 : decode cX11_goesStep 83 = .ok (.iconst 2, 1) := by decide +kernel
theorem dX11_goesStep_84 : decode cX11_goesStep 84 = .ok (.iaload, 1) := by decide +kernel
theorem dX11_goesStep_85 : decode cX11_goesStep 85 = .ok (.iconst 1, 1) := by decide +kernel
theorem dX11_goesStep_86 : decode cX11_goesStep 86 = .ok (.iadd, 1) := by decide +kernel
theorem dX11_goesStep_87 : decode cX11_goesStep 87 = .ok (.invokevirtual 150, 3) := by decide +kernel
theorem dX11_goesStep_90 : decode cX11_goesStep 90 = .ok (.ifCond .eq 7, 3) := by decide +kernel
theorem dX11_goesStep_93 : decode cX11_goesStep 93 = .ok (.iconst 1, 1) := by decide +kernel
theorem dX11_goesStep_94 : decode cX11_goesStep 94 = .ok (.goto 4, 3) := by decide +kernel
theorem dX11_goesStep_97 : decode cX11_goesStep 97 = .ok (.iconst 0, 1) := by decide +kernel
theorem dX11_goesStep_98 : decode cX11_goesStep 98 = .ok (.istore_n 2, 1) := by decide +kernel
theorem dX11_goesStep_99 : decode cX11_goesStep 99 = .ok (.aload_n 0, 1) := by decide +kernel
theorem dX11_goesStep_100 : decode cX11_goesStep 100 = .ok (.getfield 29, 3) := by decide +kernel
theorem dX11_goesStep_103 : decode cX11_goesStep 103 = .ok (.iconst 2, 1) := by decide +kernel
theorem dX11_goesStep_104 : decode cX11_goesStep 104 = .ok (.iaload, 1) := by decide +kernel
theorem dX11_goesStep_105 : decode cX11_goesStep 105 = .ok (.istore_n 3, 1) := by decide +kernel
theorem dX11_goesStep_106 : decode cX11_goesStep 106 = .ok (.aload_n 0, 1) := by decide +kernel
theorem dX11_goesStep_107 : decode cX11_goesStep 107 = .ok (.aload_n 0, 1) := by decide +kernel
theorem dX11_goesStep_108 : decode cX11_goesStep 108 = .ok (.getfield 29, 3) := by decide +kernel
theorem dX11_goesStep_111 : decode cX11_goesStep 111 = .ok (.invokevirtual 161, 3) := by decide +kernel
theorem dX11_goesStep_114 : decode cX11_goesStep 114 = .ok (.istore 4, 2) := by decide +kernel
theorem dX11_goesStep_116 : decode cX11_goesStep 116 = .ok (.iconst 0, 1) := by decide +kernel
theorem dX11_goesStep_117 : decode cX11_goesStep 117 = .ok (.istore 5, 2) := by decide +kernel
theorem dX11_goesStep_119 : decode cX11_goesStep 119 = .ok (.iload 5, 2) := by decide +kernel
theorem dX11_goesStep_121 : decode cX11_goesStep 121 = .ok (.iconst 4, 1) := by decide +kernel
theorem dX11_goesStep_122 : decode cX11_goesStep 122 = .ok (.if_icmp .ge 23, 3) := by decide +kernel
theorem dX11_goesStep_125 : decode cX11_goesStep 125 = .ok (.aload_n 0, 1) := by decide +kernel
theorem dX11_goesStep_126 : decode cX11_goesStep 126 = .ok (.getfield 19, 3) := by decide +kernel
theorem dX11_goesStep_129 : decode cX11_goesStep 129 = .ok (.iload 5, 2) := by decide +kernel
theorem dX11_goesStep_131 : decode cX11_goesStep 131 = .ok (.aload_n 0, 1) := by decide +kernel
theorem dX11_goesStep_132 : decode cX11_goesStep 132 = .ok (.getfield 29, 3) := by decide +kernel
theorem dX11_goesStep_135 : decode cX11_goesStep 135 = .ok (.iload 5, 2) := by decide +kernel
theorem dX11_goesStep_137 : decode cX11_goesStep 137 = .ok (.iaload, 1) := by decide +kernel
theorem dX11_goesStep_138 : decode cX11_goesStep 138 = .ok (.iastore, 1) := by decide +kernel
theorem dX11_goesStep_139 : decode cX11_goesStep 139 = .ok (.iinc 5 1, 3) := by decide +kernel
theorem dX11_goesStep_142 : decode cX11_goesStep 142 = .ok (.goto (-23), 3) := by decide +kernel
theorem dX11_goesStep_145 : decode cX11_goesStep 145 = .ok (.iload 4, 2) := by decide +kernel
theorem dX11_goesStep_147 : decode cX11_goesStep 147 = .ok (.ifCond .ne 77, 3) := by decide +kernel
theorem dX11_goesStep_150 : decode cX11_goesStep 150 = .ok (.aload_n 0, 1) := by decide +kernel
theorem dX11_goesStep_151 : decode cX11_goesStep 151 = .ok (.getfield 19, 3) := by decide +kernel
theorem dX11_goesStep_154 : decode cX11_goesStep 154 = .ok (.bipush 7, 2) := by decide +kernel
theorem dX11_goesStep_156 : decode cX11_goesStep 156 = .ok (.dup2, 1) := by decide +kernel
theorem dX11_goesStep_157 : decode cX11_goesStep 157 = .ok (.iaload, 1) := by decide +kernel
theorem dX11_goesStep_158 : decode cX11_goesStep 158 = .ok (.iconst 1, 1) := by decide +kernel
theorem dX11_goesStep_159 : decode cX11_goesStep 159 = .ok (.iadd, 1) := by decide +kernel
theorem dX11_goesStep_160 : decode cX11_goesStep 160 = .ok (.iastore, 1) := by decide +kernel
theorem dX11_goesStep_161 : decode cX11_goesStep 161 = .ok (.aload_n 0, 1) := by decide +kernel
theorem dX11_goesStep_162 : decode cX11_goesStep 162 = .ok (.getfield 19, 3) := by decide +kernel
theorem dX11_goesStep_165 : decode cX11_goesStep 165 = .ok (.bipush 10, 2) := by decide +kernel
theorem dX11_goesStep_167 : decode cX11_goesStep 167 = .ok (.dup2, 1) := by decide +kernel
theorem dX11_goesStep_168 : decode cX11_goesStep 168 = .ok (.iaload, 1) := by decide +kernel
theorem dX11_goesStep_169 : decode cX11_goesStep 169 = .ok (.iconst 1, 1) := by decide +kernel
theorem dX11_goesStep_170 : decode cX11_goesStep 170 = .ok (.iadd, 1) := by decide +kernel
theorem dX11_goesStep_171 : decode cX11_goesStep 171 = .ok (.iastore, 1) := by decide +kernel
theorem dX11_goesStep_172 : decode cX11_goesStep 172 = .ok (.aload_n 0, 1) := by decide +kernel
theorem dX11_goesStep_173 : decode cX11_goesStep 173 = .ok (.getfield 19, 3) := by decide +kernel
theorem dX11_goesStep_176 : decode cX11_goesStep 176 = .ok (.bipush 9, 2) := by decide +kernel
theorem dX11_goesStep_178 : decode cX11_goesStep 178 = .ok (.iload_n 1, 1) := by decide +kernel
theorem dX11_goesStep_179 : decode cX11_goesStep 179 = .ok (.ifCond .eq 7, 3) := by decide +kernel
theorem dX11_goesStep_182 : decode cX11_goesStep 182 = .ok (.iconst 5, 1) := by decide +kernel
theorem dX11_goesStep_183 : decode cX11_goesStep 183 = .ok (.goto 37, 3) := by decide +kernel
theorem dX11_goesStep_186 : decode cX11_goesStep 186 = .ok (.aload_n 0, 1) := by decide +kernel
theorem dX11_goesStep_187 : decode cX11_goesStep 187 = .ok (.getfield 19, 3) := by decide +kernel
theorem dX11_goesStep_190 : decode cX11_goesStep 190 = .ok (.bipush 10, 2) := by decide +kernel
theorem dX11_goesStep_192 : decode cX11_goesStep 192 = .ok (.iaload, 1) := by decide +kernel
theorem dX11_goesStep_193 : decode cX11_goesStep 193 = .ok (.iconst 3, 1) := by decide +kernel
theorem dX11_goesStep_194 : decode cX11_goesStep 194 = .ok (.if_icmp .le 7, 3) := by decide +kernel
theorem dX11_goesStep_197 : decode cX11_goesStep 197 = .ok (.iconst 4, 1) := by decide +kernel
theorem dX11_goesStep_198 : decode cX11_goesStep 198 = .ok (.goto 22, 3) := by decide +kernel
theorem dX11_goesStep_201 : decode cX11_goesStep 201 = .ok (.iload_n 3, 1) := by decide +kernel
theorem dX11_goesStep_202 : decode cX11_goesStep 202 = .ok (.iconst 2, 1) := by decide +kernel
theorem dX11_goesStep_203 : decode cX11_goesStep 203 = .ok (.irem, 1) := by decide +kernel
theorem dX11_goesStep_204 : decode cX11_goesStep 204 = .ok (.ifCond .ne 7, 3) := by decide +kernel
theorem dX11_goesStep_207 : decode cX11_goesStep 207 = .ok (.iconst 2, 1) := by decide +kernel
theorem dX11_goesStep_208 : decode cX11_goesStep 208 = .ok (.goto 12, 3) := by decide +kernel
theorem dX11_goesStep_211 : decode cX11_goesStep 211 = .ok (.iload_n 2, 1) := by decide +kernel
theorem dX11_goesStep_212 : decode cX11_goesStep 212 = .ok (.ifCond .eq 7, 3) := by decide +kernel
theorem dX11_goesStep_215 : decode cX11_goesStep 215 = .ok (.iconst 3, 1) := by decide +kernel
theorem dX11_goesStep_216 : decode cX11_goesStep 216 = .ok (.goto 4, 3) := by decide +kernel
theorem dX11_goesStep_219 : decode cX11_goesStep 219 = .ok (.iconst 1, 1) := by decide +kernel
theorem dX11_goesStep_220 : decode cX11_goesStep 220 = .ok (.iastore, 1) := by decide +kernel
theorem dX11_goesStep_221 : decode cX11_goesStep 221 = .ok (.goto 73, 3) := by decide +kernel
theorem dX11_goesStep_224 : decode cX11_goesStep 224 = .ok (.aload_n 0, 1) := by decide +kernel
theorem dX11_goesStep_225 : decode cX11_goesStep 225 = .ok (.getfield 19, 3) := by decide +kernel
theorem dX11_goesStep_228 : decode cX11_goesStep 228 = .ok (.bipush 6, 2) := by decide +kernel
theorem dX11_goesStep_230 : decode cX11_goesStep 230 = .ok (.dup2, 1) := by decide +kernel
theorem dX11_goesStep_231 : decode cX11_goesStep 231 = .ok (.iaload, 1) := by decide +kernel
theorem dX11_goesStep_232 : decode cX11_goesStep 232 = .ok (.iconst 1, 1) := by decide +kernel
theorem dX11_goesStep_233 : decode cX11_goesStep 233 = .ok (.iadd, 1) := by decide +kernel
theorem dX11_goesStep_234 : decode cX11_goesStep 234 = .ok (.iastore, 1) := by decide +kernel
theorem dX11_goesStep_235 : decode cX11_goesStep 235 = .ok (.aload_n 0, 1) := by decide +kernel
theorem dX11_goesStep_236 : decode cX11_goesStep 236 = .ok (.getfield 19, 3) := by decide +kernel
theorem dX11_goesStep_239 : decode cX11_goesStep 239 = .ok (.bipush 10, 2) := by decide +kernel
theorem dX11_goesStep_241 : decode cX11_goesStep 241 = .ok (.iconst 0, 1) := by decide +kernel
theorem dX11_goesStep_242 : decode cX11_goesStep 242 = .ok (.iastore, 1) := by decide +kernel
theorem dX11_goesStep_243 : decode cX11_goesStep 243 = .ok (.aload_n 0, 1) := by decide +kernel
theorem dX11_goesStep_244 : decode cX11_goesStep 244 = .ok (.getfield 19, 3) := by decide +kernel
theorem dX11_goesStep_247 : decode cX11_goesStep 247 = .ok (.bipush 8, 2) := by decide +kernel
theorem dX11_goesStep_249 : decode cX11_goesStep 249 = .ok (.dup2, 1) := by decide +kernel
theorem dX11_goesStep_250 : decode cX11_goesStep 250 = .ok (.iaload, 1) := by decide +kernel
theorem dX11_goesStep_251 : decode cX11_goesStep 251 = .ok (.iload 4, 2) := by decide +kernel
theorem dX11_goesStep_253 : decode cX11_goesStep 253 = .ok (.iconst 1, 1) := by decide +kernel
theorem dX11_goesStep_254 : decode cX11_goesStep 254 = .ok (.if_icmp .ne 37, 3) := by decide +kernel
theorem dX11_goesStep_257 : decode cX11_goesStep 257 = .ok (.aload_n 0, 1) := by decide +kernel
theorem dX11_goesStep_258 : decode cX11_goesStep 258 = .ok (.getfield 13, 3) := by decide +kernel
theorem dX11_goesStep_261 : decode cX11_goesStep 261 = .ok (.iconst 0, 1) := by decide +kernel
theorem dX11_goesStep_262 : decode cX11_goesStep 262 = .ok (.iaload, 1) := by decide +kernel
theorem dX11_goesStep_263 : decode cX11_goesStep 263 = .ok (.aload_n 0, 1) := by decide +kernel
theorem dX11_goesStep_264 : decode cX11_goesStep 264 = .ok (.getfield 19, 3) := by decide +kernel
theorem dX11_goesStep_267 : decode cX11_goesStep 267 = .ok (.iconst 1, 1) := by decide +kernel
theorem dX11_goesStep_268 : decode cX11_goesStep 268 = .ok (.iaload, 1) := by decide +kernel
theorem dX11_goesStep_269 : decode cX11_goesStep 269 = .ok (.imul, 1) := by decide +kernel
theorem dX11_goesStep_270 : decode cX11_goesStep 270 = .ok (.aload_n 0, 1) := by decide +kernel
theorem dX11_goesStep_271 : decode cX11_goesStep 271 = .ok (.getfield 19, 3) := by decide +kernel
theorem dX11_goesStep_274 : decode cX11_goesStep 274 = .ok (.iconst 0, 1) := by decide +kernel
theorem dX11_goesStep_275 : decode cX11_goesStep 275 = .ok (.iaload, 1) := by decide +kernel
theorem dX11_goesStep_276 : decode cX11_goesStep 276 = .ok (.iadd, 1) := by decide +kernel
theorem dX11_goesStep_277 : decode cX11_goesStep 277 = .ok (.aload_n 0, 1) := by decide +kernel
theorem dX11_goesStep_278 : decode cX11_goesStep 278 = .ok (.getfield 13, 3) := by decide +kernel
theorem dX11_goesStep_281 : decode cX11_goesStep 281 = .ok (.bipush 6, 2) := by decide +kernel
theorem dX11_goesStep_283 : decode cX11_goesStep 283 = .ok (.iaload, 1) := by decide +kernel
theorem dX11_goesStep_284 : decode cX11_goesStep 284 = .ok (.if_icmp .ne 7, 3) := by decide +kernel
theorem dX11_goesStep_287 : decode cX11_goesStep 287 = .ok (.iconst 1, 1) := by decide +kernel
theorem dX11_goesStep_288 : decode cX11_goesStep 288 = .ok (.goto 4, 3) := by decide +kernel
theorem dX11_goesStep_291 : decode cX11_goesStep 291 = .ok (.iconst 0, 1) := by decide +kernel
theorem dX11_goesStep_292 : decode cX11_goesStep 292 = .ok (.iadd, 1) := by decide +kernel
theorem dX11_goesStep_293 : decode cX11_goesStep 293 = .ok (.iastore, 1) := by decide +kernel
theorem dX11_goesStep_294 : decode cX11_goesStep 294 = .ok (.return_, 1) := by decide +kernel
set_option maxRecDepth 20000 in
theorem ggX11_go_X11_in : GoodIn wsX11_go wsX11_in := goodIn_r _ [5] (by decide +kernel) (by decide +kernel)
set_option maxRecDepth 20000 in
theorem gX11_go_X11_in : GoodIn wsX11_go (va_wsS RX11 60 yX11_in wsX11_in) := goodIn_app (goodIn_of _ (by decide +kernel)) ggX11_go_X11_in
set_option maxRecDepth 20000 in
theorem ggX11_go_X11_state : GoodIn wsX11_go wsX11_state := goodIn_r _ [9, 10, 11, 12, 13, 4, 14, 15, 16, 17, 18, 19, 20, 2, 3, 5, 51, 52, 53, 54, 55, 56, 57, 58, 59, 60, 61, 62, 63, 64, 65, 66, 67, 68, 69, 70, 71, 72, 73, 74, 75, 76, 77, 78, 79, 80, 81, 82] (by decide +kernel) (by decide +kernel)
set_option maxRecDepth 20000 in
theorem gX11_go_X11_state : GoodIn wsX11_go (wsV RX11 165 RX11 yX11_state wsX11_state) := goodIn_app (goodIn_of _ (by decide +kernel)) ggX11_go_X11_state
set_option maxRecDepth 20000 in
theorem ggX11_go_X11_goesStep : GoodIn wsX11_go wsX11_goesStep := goodIn_r _ [24, 10, 25, 19, 26, 27, 28, 4, 29, 30, 31, 32, 33, 34, 35, 15, 16, 17, 18, 20, 2, 3, 5, 36, 37, 38, 39, 11, 12, 13, 14, 40, 41, 42, 43, 44, 45, 46, 47, 48, 49, 50, 51, 52, 53, 54, 55, 56, 57, 58, 59, 60, 61, 62, 63, 64, 65, 66, 67, 68, 69, 70, 71, 72, 73, 74, 75, 76, 77, 78, 79, 80, 81, 82] (by decide +kernel) (by decide +kernel)
set_option maxRecDepth 20000 in
theorem gX11_go_X11_goesStep : GoodIn wsX11_go (wsV RX11 168 RX11 yX11_goesStep wsX11_goesStep) := goodIn_app (goodIn_of _ (by decide +kernel)) ggX11_go_X11_goesStep
theorem dX11_go_0 : decode cX11_go 0 = .ok (.aload_n 0, 1) := by decide +kernel
theorem dX11_go_1 : decode cX11_go 1 = .ok (.iconst 0, 1) := by decide +kernel
theorem dX11_go_2 : decode cX11_go 2 = .ok (.putfield 56, 3) := by decide +kernel
theorem dX11_go_5 : decode cX11_go 5 = .ok (.iload_n 1, 1) := by decide +kernel
theorem dX11_go_6 : decode cX11_go 6 = .ok (.iconst 1, 1) := by decide +kernel
theorem dX11_go_7 : decode cX11_go 7 = .ok (.sipush 999, 3) := by decide +kernel
theorem dX11_go_10 : decode cX11_go 10 = .ok (.invokestatic 60, 3) := by decide +kernel
theorem dX11_go_13 : decode cX11_go 13 = .ok (.ifCond .ne 5, 3) := by decide +kernel
theorem dX11_go_16 : decode cX11_go 16 = .ok (.iconst (-1), 1) := by decide +kernel
theorem dX11_go_17 : decode cX11_go 17 = .ok (.ireturn, 1) := by decide +kernel
theorem dX11_go_18 : decode cX11_go 18 = .ok (.aload_n 0, 1) := by decide +kernel
theorem dX11_go_19 : decode cX11_go 19 = .ok (.invokevirtual 165, 3) := by decide +kernel
theorem dX11_go_22 : decode cX11_go 22 = .ok (.ifCond .eq 6, 3) := by decide +kernel
theorem dX11_go_25 : decode cX11_go 25 = .ok (.bipush (-2), 2) := by decide +kernel
theorem dX11_go_27 : decode cX11_go 27 = .ok (.ireturn, 1) := by decide +kernel
theorem dX11_go_28 : decode cX11_go 28 = .ok (.iconst 0, 1) := by decide +kernel
theorem dX11_go_29 : decode cX11_go 29 = .ok (.istore_n 2, 1) := by decide +kernel
theorem dX11_go_30 : decode cX11_go 30 = .ok (.iload_n 2, 1) := by decide +kernel
theorem dX11_go_31 : decode cX11_go 31 = .ok (.iload_n 1, 1) := by decide +kernel
theorem dX11_go_32 : decode cX11_go 32 = .ok (.if_icmp .ge 20, 3) := by decide +kernel
theorem dX11_go_35 : decode cX11_go 35 = .ok (.aload_n 0, 1) := by decide +kernel
theorem dX11_go_36 : decode cX11_go 36 = .ok (.invokevirtual 165, 3) := by decide +kernel
theorem dX11_go_39 : decode cX11_go 39 = .ok (.ifCond .ne 13, 3) := by decide +kernel
theorem dX11_go_42 : decode cX11_go 42 = .ok (.aload_n 0, 1) := by decide +kernel
theorem dX11_go_43 : decode cX11_go 43 = .ok (.invokevirtual 168, 3) := by decide +kernel
theorem dX11_go_46 : decode cX11_go 46 = .ok (.iinc 2 1, 3) := by decide +kernel
theorem dX11_go_49 : decode cX11_go 49 = .ok (.goto (-19), 3) := by decide +kernel
theorem dX11_go_52 : decode cX11_go 52 = .ok (.iload_n 2, 1) := by decide +kernel
theorem dX11_go_53 : decode cX11_go 53 = .ok (.ireturn, 1) := by decide +kernel
set_option maxRecDepth 20000 in
theorem ggX11_wind_X11_in : GoodIn wsX11_wind wsX11_in := goodIn_r _ [6] (by decide +kernel) (by decide +kernel)
set_option maxRecDepth 20000 in
theorem gX11_wind_X11_in : GoodIn wsX11_wind (va_wsS RX11 60 yX11_in wsX11_in) := goodIn_app (goodIn_of _ (by decide +kernel)) ggX11_wind_X11_in
set_option maxRecDepth 20000 in
theorem ggX11_wind_X11_state : GoodIn wsX11_wind wsX11_state := goodIn_r _ [10, 2, 11, 12, 13, 5, 14, 15, 16, 17, 18, 19, 20, 3, 4, 6, 21, 22, 23, 24, 25, 26, 27, 28, 29, 30, 31, 32, 33, 34, 35, 36, 37, 38, 39, 40, 41, 42, 43, 44, 45, 46, 47, 48, 49, 50, 51, 52] (by decide +kernel) (by decide +kernel)
set_option maxRecDepth 20000 in
theorem gX11_wind_X11_state : GoodIn wsX11_wind (wsV RX11 165 RX11 yX11_state wsX11_state) := goodIn_app (goodIn_of _ (by decide +kernel)) ggX11_wind_X11_state
theorem dX11_wind_0 : decode cX11_wind 0 = .ok (.aload_n 0, 1) := by decide +kernel
theorem dX11_wind_1 : decode cX11_wind 1 = .ok (.iconst 0, 1) := by decide +kernel
theorem dX11_wind_2 : decode cX11_wind 2 = .ok (.putfield 56, 3) := by decide +kernel
theorem dX11_wind_5 : decode cX11_wind 5 = .ok (.iload_n 1, 1) := by decide +kernel
theorem dX11_wind_6 : decode cX11_wind 6 = .ok (.iconst 0, 1) := by decide +kernel
theorem dX11_wind_7 : decode cX11_wind 7 = .ok (.sipush 999, 3) := by decide +kernel
theorem dX11_wind_10 : decode cX11_wind 10 = .ok (.invokestatic 60, 3) := by decide +kernel
theorem dX11_wind_13 : decode cX11_wind 13 = .ok (.ifCond .ne 5, 3) := by decide +kernel
theorem dX11_wind_16 : decode cX11_wind 16 = .ok (.iconst (-1), 1) := by decide +kernel
theorem dX11_wind_17 : decode cX11_wind 17 = .ok (.ireturn, 1) := by decide +kernel
theorem dX11_wind_18 : decode cX11_wind 18 = .ok (.aload_n 0, 1) := by decide +kernel
theorem dX11_wind_19 : decode cX11_wind 19 = .ok (.invokevirtual 165, 3) := by decide +kernel
theorem dX11_wind_22 : decode cX11_wind 22 = .ok (.iconst 2, 1) := by decide +kernel
theorem dX11_wind_23 : decode cX11_wind 23 = .ok (.if_icmp .ne 6, 3) := by decide +kernel
theorem dX11_wind_26 : decode cX11_wind 26 = .ok (.bipush (-2), 2) := by decide +kernel
theorem dX11_wind_28 : decode cX11_wind 28 = .ok (.ireturn, 1) := by decide +kernel
theorem dX11_wind_29 : decode cX11_wind 29 = .ok (.aload_n 0, 1) := by decide +kernel
theorem dX11_wind_30 : decode cX11_wind 30 = .ok (.getfield 19, 3) := by decide +kernel
theorem dX11_wind_33 : decode cX11_wind 33 = .ok (.iconst 4, 1) := by decide +kernel
theorem dX11_wind_34 : decode cX11_wind 34 = .ok (.iaload, 1) := by decide +kernel
theorem dX11_wind_35 : decode cX11_wind 35 = .ok (.istore_n 2, 1) := by decide +kernel
theorem dX11_wind_36 : decode cX11_wind 36 = .ok (.aload_n 0, 1) := by decide +kernel
theorem dX11_wind_37 : decode cX11_wind 37 = .ok (.getfield 19, 3) := by decide +kernel
theorem dX11_wind_40 : decode cX11_wind 40 = .ok (.iconst 4, 1) := by decide +kernel
theorem dX11_wind_41 : decode cX11_wind 41 = .ok (.iload_n 1, 1) := by decide +kernel
theorem dX11_wind_42 : decode cX11_wind 42 = .ok (.iastore, 1) := by decide +kernel
theorem dX11_wind_43 : decode cX11_wind 43 = .ok (.iload_n 2, 1) := by decide +kernel
theorem dX11_wind_44 : decode cX11_wind 44 = .ok (.ireturn, 1) := by decide +kernel
set_option maxRecDepth 20000 in
theorem ggX11_isStart_X11_at : GoodIn wsX11_isStart wsX11_at := goodIn_r _ [5, 6, 7, 8, 9, 4, 10, 11, 12, 13, 14, 15, 16, 17, 18, 19, 20, 21, 22, 23, 24, 25, 26, 27, 28, 29, 30, 31, 32, 33, 34, 35, 36, 37, 38, 39, 40, 41, 42] (by decide +kernel) (by decide +kernel)
set_option maxRecDepth 20000 in
theorem gX11_isStart_X11_at : GoodIn wsX11_isStart (wsV RX11 131 RX11 yX11_at wsX11_at) := goodIn_app (goodIn_of _ (by decide +kernel)) ggX11_isStart_X11_at
set_option maxRecDepth 20000 in
theorem ggX11_isStart_X11_in : GoodIn wsX11_isStart wsX11_in := goodIn_r _ [10] (by decide +kernel) (by decide +kernel)
set_option maxRecDepth 20000 in
theorem gX11_isStart_X11_in : GoodIn wsX11_isStart (va_wsS RX11 60 yX11_in wsX11_in) := goodIn_app (goodIn_of _ (by decide +kernel)) ggX11_isStart_X11_in
theorem dX11_isStart_0 : decode cX11_isStart 0 = .ok (.aload_n 0, 1) := by decide +kernel
theorem dX11_isStart_1 : decode cX11_isStart 1 = .ok (.iload_n 1, 1) := by decide +kernel
theorem dX11_isStart_2 : decode cX11_isStart 2 = .ok (.iload_n 2, 1) := by decide +kernel
theorem dX11_isStart_3 : decode cX11_isStart 3 = .ok (.invokevirtual 131, 3) := by decide +kernel
theorem dX11_isStart_6 : decode cX11_isStart 6 = .ok (.ifCond .ne 17, 3) := by decide +kernel
theorem dX11_isStart_9 : decode cX11_isStart 9 = .ok (.iload_n 3, 1) := by decide +kernel
theorem dX11_isStart_10 : decode cX11_isStart 10 = .ok (.iconst 0, 1) := by decide +kernel
theorem dX11_isStart_11 : decode cX11_isStart 11 = .ok (.bipush 7, 2) := by decide +kernel
theorem dX11_isStart_13 : decode cX11_isStart 13 = .ok (.invokestatic 60, 3) := by decide +kernel
theorem dX11_isStart_16 : decode cX11_isStart 16 = .ok (.ifCond .eq 7, 3) := by decide +kernel
theorem dX11_isStart_19 : decode cX11_isStart 19 = .ok (.iconst 1, 1) := by decide +kernel
theorem dX11_isStart_20 : decode cX11_isStart 20 = .ok (.goto 4, 3) := by decide +kernel
theorem dX11_isStart_23 : decode cX11_isStart 23 = .ok (.iconst 0, 1) := by decide +kernel
theorem dX11_isStart_24 : decode cX11_isStart 24 = .ok (.ireturn, 1) := by decide +kernel
set_option maxRecDepth 20000 in
theorem ggX11_put_X11_isStart : GoodIn wsX11_put wsX11_isStart := goodIn_r _ [7, 8, 9, 10, 6, 11, 12, 13, 14, 15, 16, 17, 18, 19, 20, 21, 22, 23, 24, 25, 26, 27, 28, 29, 30, 31, 32, 33, 34, 35, 36, 37, 38, 39, 40, 41, 42, 43, 44, 45, 46, 47, 48] (by decide +kernel) (by decide +kernel)
set_option maxRecDepth 20000 in
theorem gX11_put_X11_isStart : GoodIn wsX11_put (wsV RX11 171 RX11 yX11_isStart wsX11_isStart) := goodIn_app (goodIn_of _ (by decide +kernel)) ggX11_put_X11_isStart
theorem dX11_put_0 : decode cX11_put 0 = .ok (.aload_n 0, 1) := by decide +kernel
theorem dX11_put_1 : decode cX11_put 1 = .ok (.iconst 0, 1) := by decide +kernel
theorem dX11_put_2 : decode cX11_put 2 = .ok (.putfield 56, 3) := by decide +kernel
theorem dX11_put_5 : decode cX11_put 5 = .ok (.aload_n 0, 1) := by decide +kernel
theorem dX11_put_6 : decode cX11_put 6 = .ok (.iload_n 1, 1) := by decide +kernel
theorem dX11_put_7 : decode cX11_put 7 = .ok (.iload_n 2, 1) := by decide +kernel
theorem dX11_put_8 : decode cX11_put 8 = .ok (.iload_n 3, 1) := by decide +kernel
theorem dX11_put_9 : decode cX11_put 9 = .ok (.invokevirtual 171, 3) := by decide +kernel
theorem dX11_put_12 : decode cX11_put 12 = .ok (.ifCond .ne 5, 3) := by decide +kernel
theorem dX11_put_15 : decode cX11_put 15 = .ok (.iconst (-1), 1) := by decide +kernel
theorem dX11_put_16 : decode cX11_put 16 = .ok (.ireturn, 1) := by decide +kernel
theorem dX11_put_17 : decode cX11_put 17 = .ok (.aload_n 0, 1) := by decide +kernel
theorem dX11_put_18 : decode cX11_put 18 = .ok (.getfield 19, 3) := by decide +kernel
theorem dX11_put_21 : decode cX11_put 21 = .ok (.iconst 0, 1) := by decide +kernel
theorem dX11_put_22 : decode cX11_put 22 = .ok (.iload_n 1, 1) := by decide +kernel
theorem dX11_put_23 : decode cX11_put 23 = .ok (.iastore, 1) := by decide +kernel
theorem dX11_put_24 : decode cX11_put 24 = .ok (.aload_n 0, 1) := by decide +kernel
theorem dX11_put_25 : decode cX11_put 25 = .ok (.getfield 19, 3) := by decide +kernel
theorem dX11_put_28 : decode cX11_put 28 = .ok (.iconst 1, 1) := by decide +kernel
theorem dX11_put_29 : decode cX11_put 29 = .ok (.iload_n 2, 1) := by decide +kernel
theorem dX11_put_30 : decode cX11_put 30 = .ok (.iastore, 1) := by decide +kernel
theorem dX11_put_31 : decode cX11_put 31 = .ok (.aload_n 0, 1) := by decide +kernel
theorem dX11_put_32 : decode cX11_put 32 = .ok (.getfield 19, 3) := by decide +kernel
theorem dX11_put_35 : decode cX11_put 35 = .ok (.iconst 2, 1) := by decide +kernel
theorem dX11_put_36 : decode cX11_put 36 = .ok (.iload_n 3, 1) := by decide +kernel
theorem dX11_put_37 : decode cX11_put 37 = .ok (.iastore, 1) := by decide +kernel
theorem dX11_put_38 : decode cX11_put 38 = .ok (.aload_n 0, 1) := by decide +kernel
theorem dX11_put_39 : decode cX11_put 39 = .ok (.getfield 19, 3) := by decide +kernel
theorem dX11_put_42 : decode cX11_put 42 = .ok (.iconst 3, 1) := by decide +kernel
theorem dX11_put_43 : decode cX11_put 43 = .ok (.iconst 0, 1) := by decide +kernel
theorem dX11_put_44 : decode cX11_put 44 = .ok (.iastore, 1) := by decide +kernel
theorem dX11_put_45 : decode cX11_put 45 = .ok (.aload_n 0, 1) := by decide +kernel
theorem dX11_put_46 : decode cX11_put 46 = .ok (.getfield 19, 3) := by decide +kernel
theorem dX11_put_49 : decode cX11_put 49 = .ok (.bipush 10, 2) := by decide +kernel
theorem dX11_put_51 : decode cX11_put 51 = .ok (.iconst 0, 1) := by decide +kernel
theorem dX11_put_52 : decode cX11_put 52 = .ok (.iastore, 1) := by decide +kernel
theorem dX11_put_53 : decode cX11_put 53 = .ok (.iconst 1, 1) := by decide +kernel
theorem dX11_put_54 : decode cX11_put 54 = .ok (.ireturn, 1) := by decide +kernel
set_option maxRecDepth 20000 in
theorem ggX11_anew_X11_begins : GoodIn wsX11_anew wsX11_begins := goodIn_r _ [7, 2, 8, 9, 10, 11, 12, 13, 14, 15, 16, 17, 18, 19, 20, 21, 22, 23, 24, 25, 26, 27, 28, 29, 30, 31, 32, 33, 34, 35, 36, 37, 38, 39, 40] (by decide +kernel) (by decide +kernel)
set_option maxRecDepth 20000 in
theorem gX11_anew_X11_begins : GoodIn wsX11_anew (wsV RX11 128 RX11 yX11_begins wsX11_begins) := goodIn_app (goodIn_of _ (by decide +kernel)) ggX11_anew_X11_begins
theorem dX11_anew_0 : decode cX11_anew 0 = .ok (.aload_n 0, 1) := by decide +kernel
theorem dX11_anew_1 : decode cX11_anew 1 = .ok (.iconst 0, 1) := by decide +kernel
theorem dX11_anew_2 : decode cX11_anew 2 = .ok (.putfield 56, 3) := by decide +kernel
theorem dX11_anew_5 : decode cX11_anew 5 = .ok (.aload_n 0, 1) := by decide +kernel
theorem dX11_anew_6 : decode cX11_anew 6 = .ok (.getfield 19, 3) := by decide +kernel
theorem dX11_anew_9 : decode cX11_anew 9 = .ok (.iconst 5, 1) := by decide +kernel
theorem dX11_anew_10 : decode cX11_anew 10 = .ok (.iaload, 1) := by decide +kernel
theorem dX11_anew_11 : decode cX11_anew 11 = .ok (.istore_n 1, 1) := by decide +kernel
theorem dX11_anew_12 : decode cX11_anew 12 = .ok (.aload_n 0, 1) := by decide +kernel
theorem dX11_anew_13 : decode cX11_anew 13 = .ok (.invokevirtual 128, 3) := by decide +kernel
theorem dX11_anew_16 : decode cX11_anew 16 = .ok (.iload_n 1, 1) := by decide +kernel
theorem dX11_anew_17 : decode cX11_anew 17 = .ok (.ireturn, 1) := by decide +kernel
set_option maxRecDepth 20000 in
theorem ggX11_now_X11_in : GoodIn wsX11_now wsX11_in := goodIn_r _ [7] (by decide +kernel) (by decide +kernel)
set_option maxRecDepth 20000 in
theorem gX11_now_X11_in : GoodIn wsX11_now (va_wsS RX11 60 yX11_in wsX11_in) := goodIn_app (goodIn_of _ (by decide +kernel)) ggX11_now_X11_in
set_option maxRecDepth 20000 in
theorem ggX11_now_X11_at : GoodIn wsX11_now wsX11_at := goodIn_r _ [11, 3, 12, 4, 5, 6, 7, 21, 22, 23, 24, 25, 26, 27, 28, 29, 30, 31, 32, 33, 34, 35, 36, 37, 38, 39, 40, 41, 42, 43, 44, 45, 46, 47, 48, 49, 50, 51, 52] (by decide +kernel) (by decide +kernel)
set_option maxRecDepth 20000 in
theorem gX11_now_X11_at : GoodIn wsX11_now (wsV RX11 131 RX11 yX11_at wsX11_at) := goodIn_app (goodIn_of _ (by decide +kernel)) ggX11_now_X11_at
set_option maxRecDepth 20000 in
theorem ggX11_now_X11_state : GoodIn wsX11_now wsX11_state := goodIn_r _ [16, 2, 17, 18, 19, 6, 20, 8, 9, 10, 11, 3, 12, 4, 5, 7, 21, 22, 23, 24, 25, 26, 27, 28, 29, 30, 31, 32, 33, 34, 35, 36, 37, 38, 39, 40, 41, 42, 43, 44, 45, 46, 47, 48, 49, 50, 51, 52] (by decide +kernel) (by decide +kernel)
set_option maxRecDepth 20000 in
theorem gX11_now_X11_state : GoodIn wsX11_now (wsV RX11 165 RX11 yX11_state wsX11_state) := goodIn_app (goodIn_of _ (by decide +kernel)) ggX11_now_X11_state
theorem dX11_now_0 : decode cX11_now 0 = .ok (.aload_n 0, 1) := by decide +kernel
theorem dX11_now_1 : decode cX11_now 1 = .ok (.iconst 0, 1) := by decide +kernel
theorem dX11_now_2 : decode cX11_now 2 = .ok (.putfield 56, 3) := by decide +kernel
theorem dX11_now_5 : decode cX11_now 5 = .ok (.iload_n 1, 1) := by decide +kernel
theorem dX11_now_6 : decode cX11_now 6 = .ok (.iconst 0, 1) := by decide +kernel
theorem dX11_now_7 : decode cX11_now 7 = .ok (.bipush 9, 2) := by decide +kernel
theorem dX11_now_9 : decode cX11_now 9 = .ok (.invokestatic 60, 3) := by decide +kernel
theorem dX11_now_12 : decode cX11_now 12 = .ok (.ifCond .ne 5, 3) := by decide +kernel
theorem dX11_now_15 : decode cX11_now 15 = .ok (.iconst (-1), 1) := by decide +kernel
theorem dX11_now_16 : decode cX11_now 16 = .ok (.ireturn, 1) := by decide +kernel
theorem dX11_now_17 : decode cX11_now 17 = .ok (.iload_n 1, 1) := by decide +kernel
theorem dX11_now_18 : decode cX11_now 18 = .ok (.ifCond .ne 50, 3) := by decide +kernel
theorem dX11_now_21 : decode cX11_now 21 = .ok (.aload_n 0, 1) := by decide +kernel
theorem dX11_now_22 : decode cX11_now 22 = .ok (.aload_n 0, 1) := by decide +kernel
theorem dX11_now_23 : decode cX11_now 23 = .ok (.getfield 19, 3) := by decide +kernel
theorem dX11_now_26 : decode cX11_now 26 = .ok (.iconst 0, 1) := by decide +kernel
theorem dX11_now_27 : decode cX11_now 27 = .ok (.iaload, 1) := by decide +kernel
theorem dX11_now_28 : decode cX11_now 28 = .ok (.aload_n 0, 1) := by decide +kernel
theorem dX11_now_29 : decode cX11_now 29 = .ok (.getfield 19, 3) := by decide +kernel
theorem dX11_now_32 : decode cX11_now 32 = .ok (.iconst 1, 1) := by decide +kernel
theorem dX11_now_33 : decode cX11_now 33 = .ok (.iaload, 1) := by decide +kernel
theorem dX11_now_34 : decode cX11_now 34 = .ok (.invokevirtual 131, 3) := by decide +kernel
theorem dX11_now_37 : decode cX11_now 37 = .ok (.bipush (-5), 2) := by decide +kernel
theorem dX11_now_39 : decode cX11_now 39 = .ok (.if_icmp .ne 8, 3) := by decide +kernel
theorem dX11_now_42 : decode cX11_now 42 = .ok (.bipush (-9), 2) := by decide +kernel
theorem dX11_now_44 : decode cX11_now 44 = .ok (.goto 23, 3) := by decide +kernel
theorem dX11_now_47 : decode cX11_now 47 = .ok (.aload_n 0, 1) := by decide +kernel
theorem dX11_now_48 : decode cX11_now 48 = .ok (.getfield 13, 3) := by decide +kernel
theorem dX11_now_51 : decode cX11_now 51 = .ok (.iconst 0, 1) := by decide +kernel
theorem dX11_now_52 : decode cX11_now 52 = .ok (.iaload, 1) := by decide +kernel
theorem dX11_now_53 : decode cX11_now 53 = .ok (.aload_n 0, 1) := by decide +kernel
theorem dX11_now_54 : decode cX11_now 54 = .ok (.getfield 19, 3) := by decide +kernel
theorem dX11_now_57 : decode cX11_now 57 = .ok (.iconst 1, 1) := by decide +kernel
theorem dX11_now_58 : decode cX11_now 58 = .ok (.iaload, 1) := by decide +kernel
theorem dX11_now_59 : decode cX11_now 59 = .ok (.imul, 1) := by decide +kernel
theorem dX11_now_60 : decode cX11_now 60 = .ok (.aload_n 0, 1) := by decide +kernel
theorem dX11_now_61 : decode cX11_now 61 = .ok (.getfield 19, 3) := by decide +kernel
theorem dX11_now_64 : decode cX11_now 64 = .ok (.iconst 0, 1) := by decide +kernel
theorem dX11_now_65 : decode cX11_now 65 = .ok (.iaload, 1) := by decide +kernel
theorem dX11_now_66 : decode cX11_now 66 = .ok (.iadd, 1) := by decide +kernel
theorem dX11_now_67 : decode cX11_now 67 = .ok (.ireturn, 1) := by decide +kernel
theorem dX11_now_68 : decode cX11_now 68 = .ok (.iload_n 1, 1) := by decide +kernel
theorem dX11_now_69 : decode cX11_now 69 = .ok (.iconst 1, 1) := by decide +kernel
theorem dX11_now_70 : decode cX11_now 70 = .ok (.if_icmp .ne 12, 3) := by decide +kernel
theorem dX11_now_73 : decode cX11_now 73 = .ok (.aload_n 0, 1) := by decide +kernel
theorem dX11_now_74 : decode cX11_now 74 = .ok (.getfield 19, 3) := by decide +kernel
theorem dX11_now_77 : decode cX11_now 77 = .ok (.iconst 2, 1) := by decide +kernel
theorem dX11_now_78 : decode cX11_now 78 = .ok (.iaload, 1) := by decide +kernel
theorem dX11_now_79 : decode cX11_now 79 = .ok (.goto 49, 3) := by decide +kernel
theorem dX11_now_82 : decode cX11_now 82 = .ok (.iload_n 1, 1) := by decide +kernel
theorem dX11_now_83 : decode cX11_now 83 = .ok (.iconst 2, 1) := by decide +kernel
theorem dX11_now_84 : decode cX11_now 84 = .ok (.if_icmp .ne 12, 3) := by decide +kernel
theorem dX11_now_87 : decode cX11_now 87 = .ok (.aload_n 0, 1) := by decide +kernel
theorem dX11_now_88 : decode cX11_now 88 = .ok (.getfield 19, 3) := by decide +kernel
theorem dX11_now_91 : decode cX11_now 91 = .ok (.iconst 3, 1) := by decide +kernel
theorem dX11_now_92 : decode cX11_now 92 = .ok (.iaload, 1) := by decide +kernel
theorem dX11_now_93 : decode cX11_now 93 = .ok (.goto 35, 3) := by decide +kernel
theorem dX11_now_96 : decode cX11_now 96 = .ok (.iload_n 1, 1) := by decide +kernel
theorem dX11_now_97 : decode cX11_now 97 = .ok (.iconst 3, 1) := by decide +kernel
theorem dX11_now_98 : decode cX11_now 98 = .ok (.if_icmp .ne 12, 3) := by decide +kernel
theorem dX11_now_101 : decode cX11_now 101 = .ok (.aload_n 0, 1) := by decide +kernel
theorem dX11_now_102 : decode cX11_now 102 = .ok (.getfield 19, 3) := by decide +kernel
theorem dX11_now_105 : decode cX11_now 105 = .ok (.iconst 4, 1) := by decide +kernel
theorem dX11_now_106 : decode cX11_now 106 = .ok (.iaload, 1) := by decide +kernel
theorem dX11_now_107 : decode cX11_now 107 = .ok (.goto 21, 3) := by decide +kernel
theorem dX11_now_110 : decode cX11_now 110 = .ok (.iload_n 1, 1) := by decide +kernel
theorem dX11_now_111 : decode cX11_now 111 = .ok (.iconst 4, 1) := by decide +kernel
theorem dX11_now_112 : decode cX11_now 112 = .ok (.if_icmp .ne 10, 3) := by decide +kernel
theorem dX11_now_115 : decode cX11_now 115 = .ok (.aload_n 0, 1) := by decide +kernel
theorem dX11_now_116 : decode cX11_now 116 = .ok (.invokevirtual 165, 3) := by decide +kernel
theorem dX11_now_119 : decode cX11_now 119 = .ok (.goto 9, 3) := by decide +kernel
theorem dX11_now_122 : decode cX11_now 122 = .ok (.aload_n 0, 1) := by decide +kernel
theorem dX11_now_123 : decode cX11_now 123 = .ok (.getfield 19, 3) := by decide +kernel
theorem dX11_now_126 : decode cX11_now 126 = .ok (.iload_n 1, 1) := by decide +kernel
theorem dX11_now_127 : decode cX11_now 127 = .ok (.iaload, 1) := by decide +kernel
theorem dX11_now_128 : decode cX11_now 128 = .ok (.ireturn, 1) := by decide +kernel
theorem dX11_cellOf_0 : decode cX11_cellOf 0 = .ok (.aload_n 0, 1) := by decide +kernel
theorem dX11_cellOf_1 : decode cX11_cellOf 1 = .ok (.getfield 13, 3) := by decide +kernel
theorem dX11_cellOf_4 : decode cX11_cellOf 4 = .ok (.iconst 0, 1) := by decide +kernel
theorem dX11_cellOf_5 : decode cX11_cellOf 5 = .ok (.iaload, 1) := by decide +kernel
theorem dX11_cellOf_6 : decode cX11_cellOf 6 = .ok (.aload_n 1, 1) := by decide +kernel
theorem dX11_cellOf_7 : decode cX11_cellOf 7 = .ok (.iconst 1, 1) := by decide +kernel
theorem dX11_cellOf_8 : decode cX11_cellOf 8 = .ok (.iaload, 1) := by decide +kernel
theorem dX11_cellOf_9 : decode cX11_cellOf 9 = .ok (.imul, 1) := by decide +kernel
theorem dX11_cellOf_10 : decode cX11_cellOf 10 = .ok (.aload_n 1, 1) := by decide +kernel
theorem dX11_cellOf_11 : decode cX11_cellOf 11 = .ok (.iconst 0, 1) := by decide +kernel
theorem dX11_cellOf_12 : decode cX11_cellOf 12 = .ok (.iaload, 1) := by decide +kernel
theorem dX11_cellOf_13 : decode cX11_cellOf 13 = .ok (.iadd, 1) := by decide +kernel
theorem dX11_cellOf_14 : decode cX11_cellOf 14 = .ok (.ireturn, 1) := by decide +kernel
set_option maxRecDepth 20000 in
theorem ggX11_stand_X11_cellOf : GoodIn wsX11_stand wsX11_cellOf := goodIn_r _ [5, 6, 7, 8, 9, 10, 11, 12, 13, 14, 15, 16, 17, 18, 19, 20, 21, 22, 23, 24, 25, 26, 27, 28, 29, 30, 31, 32, 33, 34, 35, 36, 37, 38] (by decide +kernel) (by decide +kernel)
set_option maxRecDepth 20000 in
theorem gX11_stand_X11_cellOf : GoodIn wsX11_stand (wsV RX11 174 RX11 yX11_cellOf wsX11_cellOf) := goodIn_app (goodIn_of _ (by decide +kernel)) ggX11_stand_X11_cellOf
theorem dX11_stand_0 : decode cX11_stand 0 = .ok (.bipush 80, 2) := by decide +kernel
theorem dX11_stand_2 : decode cX11_stand 2 = .ok (.aload_n 0, 1) := by decide +kernel
theorem dX11_stand_3 : decode cX11_stand 3 = .ok (.aload_n 1, 1) := by decide +kernel
theorem dX11_stand_4 : decode cX11_stand 4 = .ok (.invokevirtual 174, 3) := by decide +kernel
theorem dX11_stand_7 : decode cX11_stand 7 = .ok (.imul, 1) := by decide +kernel
theorem dX11_stand_8 : decode cX11_stand 8 = .ok (.bipush 10, 2) := by decide +kernel
theorem dX11_stand_10 : decode cX11_stand 10 = .ok (.aload_n 1, 1) := by decide +kernel
theorem dX11_stand_11 : decode cX11_stand 11 = .ok (.iconst 2, 1) := by decide +kernel
theorem dX11_stand_12 : decode cX11_stand 12 = .ok (.iaload, 1) := by decide +kernel
theorem dX11_stand_13 : decode cX11_stand 13 = .ok (.imul, 1) := by decide +kernel
theorem dX11_stand_14 : decode cX11_stand 14 = .ok (.iadd, 1) := by decide +kernel
theorem dX11_stand_15 : decode cX11_stand 15 = .ok (.aload_n 1, 1) := by decide +kernel
theorem dX11_stand_16 : decode cX11_stand 16 = .ok (.iconst 3, 1) := by decide +kernel
theorem dX11_stand_17 : decode cX11_stand 17 = .ok (.iaload, 1) := by decide +kernel
theorem dX11_stand_18 : decode cX11_stand 18 = .ok (.iadd, 1) := by decide +kernel
theorem dX11_stand_19 : decode cX11_stand 19 = .ok (.ireturn, 1) := by decide +kernel
theorem dX11_fromNow_0 : decode cX11_fromNow 0 = .ok (.aload_n 0, 1) := by decide +kernel
theorem dX11_fromNow_1 : decode cX11_fromNow 1 = .ok (.iconst 0, 1) := by decide +kernel
theorem dX11_fromNow_2 : decode cX11_fromNow 2 = .ok (.putfield 154, 3) := by decide +kernel
theorem dX11_fromNow_5 : decode cX11_fromNow 5 = .ok (.iconst 0, 1) := by decide +kernel
theorem dX11_fromNow_6 : decode cX11_fromNow 6 = .ok (.istore_n 1, 1) := by decide +kernel
theorem dX11_fromNow_7 : decode cX11_fromNow 7 = .ok (.iload_n 1, 1) := by decide +kernel
theorem dX11_fromNow_8 : decode cX11_fromNow 8 = .ok (.iconst 4, 1) := by decide +kernel
theorem dX11_fromNow_9 : decode cX11_fromNow 9 = .ok (.if_icmp .ge 21, 3) := by decide +kernel
theorem dX11_fromNow_12 : decode cX11_fromNow 12 = .ok (.aload_n 0, 1) := by decide +kernel
theorem dX11_fromNow_13 : decode cX11_fromNow 13 = .ok (.getfield 29, 3) := by decide +kernel
theorem dX11_fromNow_16 : decode cX11_fromNow 16 = .ok (.iload_n 1, 1) := by decide +kernel
theorem dX11_fromNow_17 : decode cX11_fromNow 17 = .ok (.aload_n 0, 1) := by decide +kernel
theorem dX11_fromNow_18 : decode cX11_fromNow 18 = .ok (.getfield 19, 3) := by decide +kernel
theorem dX11_fromNow_21 : decode cX11_fromNow 21 = .ok (.iload_n 1, 1) := by decide +kernel
theorem dX11_fromNow_22 : decode cX11_fromNow 22 = .ok (.iaload, 1) := by decide +kernel
theorem dX11_fromNow_23 : decode cX11_fromNow 23 = .ok (.iastore, 1) := by decide +kernel
theorem dX11_fromNow_24 : decode cX11_fromNow 24 = .ok (.iinc 1 1, 3) := by decide +kernel
theorem dX11_fromNow_27 : decode cX11_fromNow 27 = .ok (.goto (-20), 3) := by decide +kernel
theorem dX11_fromNow_30 : decode cX11_fromNow 30 = .ok (.return_, 1) := by decide +kernel
theorem dX11_unmarks_0 : decode cX11_unmarks 0 = .ok (.iconst 0, 1) := by decide +kernel
theorem dX11_unmarks_1 : decode cX11_unmarks 1 = .ok (.istore_n 1, 1) := by decide +kernel
theorem dX11_unmarks_2 : decode cX11_unmarks 2 = .ok (.iload_n 1, 1) := by decide +kernel
theorem dX11_unmarks_3 : decode cX11_unmarks 3 = .ok (.sipush 20480, 3) := by decide +kernel
theorem dX11_unmarks_6 : decode cX11_unmarks 6 = .ok (.if_icmp .ge 16, 3) := by decide +kernel
theorem dX11_unmarks_9 : decode cX11_unmarks 9 = .ok (.aload_n 0, 1) := by decide +kernel
theorem dX11_unmarks_10 : decode cX11_unmarks 10 = .ok (.getfield 35, 3) := by decide +kernel
theorem dX11_unmarks_13 : decode cX11_unmarks 13 = .ok (.iload_n 1, 1) := by decide +kernel
theorem dX11_unmarks_14 : decode cX11_unmarks 14 = .ok (.iconst 0, 1) := by decide +kernel
theorem dX11_unmarks_15 : decode cX11_unmarks 15 = .ok (.iastore, 1) := by decide +kernel
theorem dX11_unmarks_16 : decode cX11_unmarks 16 = .ok (.iinc 1 1, 3) := by decide +kernel
theorem dX11_unmarks_19 : decode cX11_unmarks 19 = .ok (.goto (-17), 3) := by decide +kernel
theorem dX11_unmarks_22 : decode cX11_unmarks 22 = .ok (.return_, 1) := by decide +kernel
theorem dX11_bares_0 : decode cX11_bares 0 = .ok (.iconst 0, 1) := by decide +kernel
theorem dX11_bares_1 : decode cX11_bares 1 = .ok (.istore_n 1, 1) := by decide +kernel
theorem dX11_bares_2 : decode cX11_bares 2 = .ok (.iload_n 1, 1) := by decide +kernel
theorem dX11_bares_3 : decode cX11_bares 3 = .ok (.sipush 256, 3) := by decide +kernel
theorem dX11_bares_6 : decode cX11_bares 6 = .ok (.if_icmp .ge 16, 3) := by decide +kernel
theorem dX11_bares_9 : decode cX11_bares 9 = .ok (.aload_n 0, 1) := by decide +kernel
theorem dX11_bares_10 : decode cX11_bares 10 = .ok (.getfield 38, 3) := by decide +kernel
theorem dX11_bares_13 : decode cX11_bares 13 = .ok (.iload_n 1, 1) := by decide +kernel
theorem dX11_bares_14 : decode cX11_bares 14 = .ok (.iconst 0, 1) := by decide +kernel
theorem dX11_bares_15 : decode cX11_bares 15 = .ok (.iastore, 1) := by decide +kernel
theorem dX11_bares_16 : decode cX11_bares 16 = .ok (.iinc 1 1, 3) := by decide +kernel
theorem dX11_bares_19 : decode cX11_bares 19 = .ok (.goto (-17), 3) := by decide +kernel
theorem dX11_bares_22 : decode cX11_bares 22 = .ok (.return_, 1) := by decide +kernel
set_option maxRecDepth 20000 in
theorem ggX11_goesRound_X11_bares : GoodIn wsX11_goesRound wsX11_bares := goodIn_r _ [9, 4, 57, 58, 59, 60, 61, 62, 63, 64, 65, 66, 67, 68, 69, 70, 71, 72, 73, 74, 75, 76, 77, 78, 79, 80, 81, 82, 83, 84, 85, 86, 87, 88] (by decide +kernel) (by decide +kernel)
set_option maxRecDepth 20000 in
theorem gX11_goesRound_X11_bares : GoodIn wsX11_goesRound (wsV RX11 177 RX11 yX11_bares wsX11_bares) := goodIn_app (goodIn_of _ (by decide +kernel)) ggX11_goesRound_X11_bares
set_option maxRecDepth 20000 in
theorem ggX11_goesRound_X11_stand : GoodIn wsX11_goesRound wsX11_stand := goodIn_r _ [13, 14, 15, 16, 8, 17, 18, 57, 58, 59, 60, 61, 62, 63, 64, 65, 66, 67, 68, 69, 70, 71, 72, 73, 74, 75, 76, 77, 78, 79, 80, 81, 82, 83, 84, 85, 86, 87, 88] (by decide +kernel) (by decide +kernel)
set_option maxRecDepth 20000 in
theorem gX11_goesRound_X11_stand : GoodIn wsX11_goesRound (wsV RX11 186 RX11 yX11_stand wsX11_stand) := goodIn_app (goodIn_of _ (by decide +kernel)) ggX11_goesRound_X11_stand
set_option maxRecDepth 20000 in
theorem ggX11_goesRound_X11_cellOf : GoodIn wsX11_goesRound wsX11_cellOf := goodIn_r _ [17, 18, 57, 58, 59, 60, 61, 62, 63, 64, 65, 66, 67, 68, 69, 70, 71, 72, 73, 74, 75, 76, 77, 78, 79, 80, 81, 82, 83, 84, 85, 86, 87, 88] (by decide +kernel) (by decide +kernel)
set_option maxRecDepth 20000 in
theorem gX11_goesRound_X11_cellOf : GoodIn wsX11_goesRound (wsV RX11 174 RX11 yX11_cellOf wsX11_cellOf) := goodIn_app (goodIn_of _ (by decide +kernel)) ggX11_goesRound_X11_cellOf
set_option maxRecDepth 20000 in
theorem ggX11_goesRound_X11_steps : GoodIn wsX11_goesRound wsX11_steps := goodIn_r _ [22, 23, 18, 24, 25, 26, 8, 27, 28, 29, 30, 31, 32, 33, 34, 35, 36, 37, 38, 39, 40, 41, 42, 43, 44, 45, 46, 47, 48, 49, 50, 51, 52, 53, 54, 55, 56, 57, 58, 59, 60, 61, 62, 63, 64, 65, 66, 67, 68, 69, 70, 71, 72, 73, 74, 75, 76, 77, 78, 79, 80, 81, 82, 83, 84, 85, 86, 87, 88] (by decide +kernel) (by decide +kernel)
set_option maxRecDepth 20000 in
theorem gX11_goesRound_X11_steps : GoodIn wsX11_goesRound (wsV RX11 161 RX11 yX11_steps wsX11_steps) := goodIn_app (goodIn_of _ (by decide +kernel)) ggX11_goesRound_X11_steps
theorem dX11_goesRound_0 : decode cX11_goesRound 0 = .ok (.aload_n 0, 1) := by decide +kernel
theorem dX11_goesRound_1 : decode cX11_goesRound 1 = .ok (.invokevirtual 177, 3) := by decide +kernel
theorem dX11_goesRound_4 : decode cX11_goesRound 4 = .ok (.aload_n 0, 1) := by decide +kernel
theorem dX11_goesRound_5 : decode cX11_goesRound 5 = .ok (.iconst 0, 1) := by decide +kernel
theorem dX11_goesRound_6 : decode cX11_goesRound 6 = .ok (.putfield 180, 3) := by decide +kernel
theorem dX11_goesRound_9 : decode cX11_goesRound 9 = .ok (.aload_n 0, 1) := by decide +kernel
theorem dX11_goesRound_10 : decode cX11_goesRound 10 = .ok (.iconst 0, 1) := by decide +kernel
theorem dX11_goesRound_11 : decode cX11_goesRound 11 = .ok (.putfield 183, 3) := by decide +kernel
theorem dX11_goesRound_14 : decode cX11_goesRound 14 = .ok (.aload_n 0, 1) := by decide +kernel
theorem dX11_goesRound_15 : decode cX11_goesRound 15 = .ok (.aload_n 0, 1) := by decide +kernel
theorem dX11_goesRound_16 : decode cX11_goesRound 16 = .ok (.getfield 29, 3) := by decide +kernel
theorem dX11_goesRound_19 : decode cX11_goesRound 19 = .ok (.invokevirtual 186, 3) := by decide +kernel
theorem dX11_goesRound_22 : decode cX11_goesRound 22 = .ok (.istore_n 1, 1) := by decide +kernel
theorem dX11_goesRound_23 : decode cX11_goesRound 23 = .ok (.iconst 1, 1) := by decide +kernel
theorem dX11_goesRound_24 : decode cX11_goesRound 24 = .ok (.istore_n 2, 1) := by decide +kernel
theorem dX11_goesRound_25 : decode cX11_goesRound 25 = .ok (.iload_n 2, 1) := by decide +kernel
theorem dX11_goesRound_26 : decode cX11_goesRound 26 = .ok (.ifCond .eq 80, 3) := by decide +kernel
theorem dX11_goesRound_29 : decode cX11_goesRound 29 = .ok (.aload_n 0, 1) := by decide +kernel
theorem dX11_goesRound_30 : decode cX11_goesRound 30 = .ok (.aload_n 0, 1) := by decide +kernel
theorem dX11_goesRound_31 : decode cX11_goesRound 31 = .ok (.getfield 29, 3) := by decide +kernel
theorem dX11_goesRound_34 : decode cX11_goesRound 34 = .ok (.invokevirtual 174, 3) := by decide +kernel
theorem dX11_goesRound_37 : decode cX11_goesRound 37 = .ok (.istore_n 3, 1) := by decide +kernel
theorem dX11_goesRound_38 : decode cX11_goesRound 38 = .ok (.aload_n 0, 1) := by decide +kernel
theorem dX11_goesRound_39 : decode cX11_goesRound 39 = .ok (.dup, 1) := by decide +kernel
theorem dX11_goesRound_40 : decode cX11_goesRound 40 = .ok (.getfield 183, 3) := by decide +kernel
theorem dX11_goesRound_43 : decode cX11_goesRound 43 = .ok (.aload_n 0, 1) := by decide +kernel
theorem dX11_goesRound_44 : decode cX11_goesRound 44 = .ok (.getfield 38, 3) := by decide +kernel
theorem dX11_goesRound_47 : decode cX11_goesRound 47 = .ok (.iload_n 3, 1) := by decide +kernel
theorem dX11_goesRound_48 : decode cX11_goesRound 48 = .ok (.iaload, 1) := by decide +kernel
theorem dX11_goesRound_49 : decode cX11_goesRound 49 = .ok (.ifCond .ne 7, 3) := by decide +kernel
theorem dX11_goesRound_52 : decode cX11_goesRound 52 = .ok (.iconst 1, 1) := by decide +kernel
theorem dX11_goesRound_53 : decode cX11_goesRound 53 = .ok (.goto 4, 3) := by decide +kernel
theorem dX11_goesRound_56 : decode cX11_goesRound 56 = .ok (.iconst 0, 1) := by decide +kernel
theorem dX11_goesRound_57 : decode cX11_goesRound 57 = .ok (.iadd, 1) := by decide +kernel
theorem dX11_goesRound_58 : decode cX11_goesRound 58 = .ok (.putfield 183, 3) := by decide +kernel
theorem dX11_goesRound_61 : decode cX11_goesRound 61 = .ok (.aload_n 0, 1) := by decide +kernel
theorem dX11_goesRound_62 : decode cX11_goesRound 62 = .ok (.getfield 38, 3) := by decide +kernel
theorem dX11_goesRound_65 : decode cX11_goesRound 65 = .ok (.iload_n 3, 1) := by decide +kernel
theorem dX11_goesRound_66 : decode cX11_goesRound 66 = .ok (.iconst 1, 1) := by decide +kernel
theorem dX11_goesRound_67 : decode cX11_goesRound 67 = .ok (.iastore, 1) := by decide +kernel
theorem dX11_goesRound_68 : decode cX11_goesRound 68 = .ok (.aload_n 0, 1) := by decide +kernel
theorem dX11_goesRound_69 : decode cX11_goesRound 69 = .ok (.dup, 1) := by decide +kernel
theorem dX11_goesRound_70 : decode cX11_goesRound 70 = .ok (.getfield 180, 3) := by decide +kernel
theorem dX11_goesRound_73 : decode cX11_goesRound 73 = .ok (.aload_n 0, 1) := by decide +kernel
theorem dX11_goesRound_74 : decode cX11_goesRound 74 = .ok (.aload_n 0, 1) := by decide +kernel
theorem dX11_goesRound_75 : decode cX11_goesRound 75 = .ok (.getfield 29, 3) := by decide +kernel
theorem dX11_goesRound_78 : decode cX11_goesRound 78 = .ok (.invokevirtual 161, 3) := by decide +kernel
theorem dX11_goesRound_81 : decode cX11_goesRound 81 = .ok (.iadd, 1) := by decide +kernel
theorem dX11_goesRound_82 : decode cX11_goesRound 82 = .ok (.putfield 180, 3) := by decide +kernel
theorem dX11_goesRound_85 : decode cX11_goesRound 85 = .ok (.aload_n 0, 1) := by decide +kernel
theorem dX11_goesRound_86 : decode cX11_goesRound 86 = .ok (.aload_n 0, 1) := by decide +kernel
theorem dX11_goesRound_87 : decode cX11_goesRound 87 = .ok (.getfield 29, 3) := by decide +kernel
theorem dX11_goesRound_90 : decode cX11_goesRound 90 = .ok (.invokevirtual 186, 3) := by decide +kernel
theorem dX11_goesRound_93 : decode cX11_goesRound 93 = .ok (.iload_n 1, 1) := by decide +kernel
theorem dX11_goesRound_94 : decode cX11_goesRound 94 = .ok (.if_icmp .eq 7, 3) := by decide +kernel
theorem dX11_goesRound_97 : decode cX11_goesRound 97 = .ok (.iconst 1, 1) := by decide +kernel
theorem dX11_goesRound_98 : decode cX11_goesRound 98 = .ok (.goto 4, 3) := by decide +kernel
theorem dX11_goesRound_101 : decode cX11_goesRound 101 = .ok (.iconst 0, 1) := by decide +kernel
theorem dX11_goesRound_102 : decode cX11_goesRound 102 = .ok (.istore_n 2, 1) := by decide +kernel
theorem dX11_goesRound_103 : decode cX11_goesRound 103 = .ok (.goto (-78), 3) := by decide +kernel
theorem dX11_goesRound_106 : decode cX11_goesRound 106 = .ok (.return_, 1) := by decide +kernel
set_option maxRecDepth 20000 in
theorem ggX11_round_X11_in : GoodIn wsX11_round wsX11_in := goodIn_r _ [11] (by decide +kernel) (by decide +kernel)
set_option maxRecDepth 20000 in
theorem gX11_round_X11_in : GoodIn wsX11_round (va_wsS RX11 60 yX11_in wsX11_in) := goodIn_app (goodIn_of _ (by decide +kernel)) ggX11_round_X11_in
set_option maxRecDepth 20000 in
theorem ggX11_round_X11_state : GoodIn wsX11_round wsX11_state := goodIn_r _ [15, 16, 17, 18, 19, 10, 20, 21, 22, 23, 24, 25, 26, 8, 9, 11, 77, 78, 79, 80, 81, 82, 83, 84, 85, 86, 87, 88, 89, 90, 91, 92, 93, 94, 95, 96, 97, 98, 99, 100, 101, 102, 103, 104, 105, 106, 107, 108] (by decide +kernel) (by decide +kernel)
set_option maxRecDepth 20000 in
theorem gX11_round_X11_state : GoodIn wsX11_round (wsV RX11 165 RX11 yX11_state wsX11_state) := goodIn_app (goodIn_of _ (by decide +kernel)) ggX11_round_X11_state
set_option maxRecDepth 20000 in
theorem ggX11_round_X11_fromNow : GoodIn wsX11_round wsX11_fromNow := goodIn_r _ [30, 31, 3, 16, 77, 78, 79, 80, 81, 82, 83, 84, 85, 86, 87, 88, 89, 90, 91, 92, 93, 94, 95, 96, 97, 98, 99, 100, 101, 102, 103, 104, 105, 106, 107, 108] (by decide +kernel) (by decide +kernel)
set_option maxRecDepth 20000 in
theorem gX11_round_X11_fromNow : GoodIn wsX11_round (wsV RX11 189 RX11 yX11_fromNow wsX11_fromNow) := goodIn_app (goodIn_of _ (by decide +kernel)) ggX11_round_X11_fromNow
set_option maxRecDepth 20000 in
theorem ggX11_round_X11_unmarks : GoodIn wsX11_round wsX11_unmarks := goodIn_r _ [35, 2, 77, 78, 79, 80, 81, 82, 83, 84, 85, 86, 87, 88, 89, 90, 91, 92, 93, 94, 95, 96, 97, 98, 99, 100, 101, 102, 103, 104, 105, 106, 107, 108] (by decide +kernel) (by decide +kernel)
set_option maxRecDepth 20000 in
theorem gX11_round_X11_unmarks : GoodIn wsX11_round (wsV RX11 192 RX11 yX11_unmarks wsX11_unmarks) := goodIn_app (goodIn_of _ (by decide +kernel)) ggX11_round_X11_unmarks
set_option maxRecDepth 20000 in
theorem ggX11_round_X11_stand : GoodIn wsX11_round wsX11_stand := goodIn_r _ [39, 40, 41, 42, 10, 43, 25, 77, 78, 79, 80, 81, 82, 83, 84, 85, 86, 87, 88, 89, 90, 91, 92, 93, 94, 95, 96, 97, 98, 99, 100, 101, 102, 103, 104, 105, 106, 107, 108] (by decide +kernel) (by decide +kernel)
set_option maxRecDepth 20000 in
theorem gX11_round_X11_stand : GoodIn wsX11_round (wsV RX11 186 RX11 yX11_stand wsX11_stand) := goodIn_app (goodIn_of _ (by decide +kernel)) ggX11_round_X11_stand
set_option maxRecDepth 20000 in
theorem ggX11_round_X11_steps : GoodIn wsX11_round wsX11_steps := goodIn_r _ [47, 31, 25, 48, 49, 50, 10, 51, 52, 53, 54, 55, 56, 57, 21, 22, 23, 24, 26, 8, 9, 11, 58, 59, 60, 61, 17, 18, 19, 20, 62, 63, 64, 65, 16, 66, 67, 77, 78, 79, 80, 81, 82, 83, 84, 85, 86, 87, 88, 89, 90, 91, 92, 93, 94, 95, 96, 97, 98, 99, 100, 101, 102, 103, 104, 105, 106, 107, 108] (by decide +kernel) (by decide +kernel)
set_option maxRecDepth 20000 in
theorem gX11_round_X11_steps : GoodIn wsX11_round (wsV RX11 161 RX11 yX11_steps wsX11_steps) := goodIn_app (goodIn_of _ (by decide +kernel)) ggX11_round_X11_steps
set_option maxRecDepth 20000 in
theorem ggX11_round_X11_goesRound : GoodIn wsX11_round wsX11_goesRound := goodIn_r _ [71, 6, 7, 3, 72, 73, 74, 75, 10, 76, 36, 37, 38, 39, 40, 41, 42, 43, 25, 44, 45, 46, 47, 31, 48, 49, 50, 51, 52, 53, 54, 55, 56, 57, 21, 22, 23, 24, 26, 8, 9, 11, 58, 59, 60, 61, 17, 18, 19, 20, 62, 63, 64, 65, 16, 66, 67, 77, 78, 79, 80, 81, 82, 83, 84, 85, 86, 87, 88, 89, 90, 91, 92, 93, 94, 95, 96, 97, 98, 99, 100, 101, 102, 103, 104, 105, 106, 107, 108] (by decide +kernel) (by decide +kernel)
set_option maxRecDepth 20000 in
theorem gX11_round_X11_goesRound : GoodIn wsX11_round (wsV RX11 201 RX11 yX11_goesRound wsX11_goesRound) := goodIn_app (goodIn_of _ (by decide +kernel)) ggX11_round_X11_goesRound
theorem dX11_round_0 : decode cX11_round 0 = .ok (.aload_n 0, 1) := by decide +kernel
theorem dX11_round_1 : decode cX11_round 1 = .ok (.iconst 0, 1) := by decide +kernel
theorem dX11_round_2 : decode cX11_round 2 = .ok (.putfield 56, 3) := by decide +kernel
theorem dX11_round_5 : decode cX11_round 5 = .ok (.iload_n 1, 1) := by decide +kernel
theorem dX11_round_6 : decode cX11_round 6 = .ok (.iconst 0, 1) := by decide +kernel
theorem dX11_round_7 : decode cX11_round 7 = .ok (.iconst 3, 1) := by decide +kernel
theorem dX11_round_8 : decode cX11_round 8 = .ok (.invokestatic 60, 3) := by decide +kernel
theorem dX11_round_11 : decode cX11_round 11 = .ok (.ifCond .ne 5, 3) := by decide +kernel
theorem dX11_round_14 : decode cX11_round 14 = .ok (.iconst (-1), 1) := by decide +kernel
theorem dX11_round_15 : decode cX11_round 15 = .ok (.ireturn, 1) := by decide +kernel
theorem dX11_round_16 : decode cX11_round 16 = .ok (.aload_n 0, 1) := by decide +kernel
theorem dX11_round_17 : decode cX11_round 17 = .ok (.invokevirtual 165, 3) := by decide +kernel
theorem dX11_round_20 : decode cX11_round 20 = .ok (.iconst 2, 1) := by decide +kernel
theorem dX11_round_21 : decode cX11_round 21 = .ok (.if_icmp .ne 6, 3) := by decide +kernel
theorem dX11_round_24 : decode cX11_round 24 = .ok (.bipush (-2), 2) := by decide +kernel
theorem dX11_round_26 : decode cX11_round 26 = .ok (.ireturn, 1) := by decide +kernel
theorem dX11_round_27 : decode cX11_round 27 = .ok (.aload_n 0, 1) := by decide +kernel
theorem dX11_round_28 : decode cX11_round 28 = .ok (.invokevirtual 189, 3) := by decide +kernel
theorem dX11_round_31 : decode cX11_round 31 = .ok (.aload_n 0, 1) := by decide +kernel
theorem dX11_round_32 : decode cX11_round 32 = .ok (.invokevirtual 192, 3) := by decide +kernel
theorem dX11_round_35 : decode cX11_round 35 = .ok (.iconst 0, 1) := by decide +kernel
theorem dX11_round_36 : decode cX11_round 36 = .ok (.istore_n 2, 1) := by decide +kernel
theorem dX11_round_37 : decode cX11_round 37 = .ok (.iconst 1, 1) := by decide +kernel
theorem dX11_round_38 : decode cX11_round 38 = .ok (.istore_n 3, 1) := by decide +kernel
theorem dX11_round_39 : decode cX11_round 39 = .ok (.iload_n 3, 1) := by decide +kernel
theorem dX11_round_40 : decode cX11_round 40 = .ok (.ifCond .eq 57, 3) := by decide +kernel
theorem dX11_round_43 : decode cX11_round 43 = .ok (.aload_n 0, 1) := by decide +kernel
theorem dX11_round_44 : decode cX11_round 44 = .ok (.getfield 35, 3) := by decide +kernel
theorem dX11_round_47 : decode cX11_round 47 = .ok (.aload_n 0, 1) := by decide +kernel
theorem dX11_round_48 : decode cX11_round 48 = .ok (.aload_n 0, 1) := by decide +kernel
theorem dX11_round_49 : decode cX11_round 49 = .ok (.getfield 29, 3) := by decide +kernel
theorem dX11_round_52 : decode cX11_round 52 = .ok (.invokevirtual 186, 3) := by decide +kernel
theorem dX11_round_55 : decode cX11_round 55 = .ok (.iaload, 1) := by decide +kernel
theorem dX11_round_56 : decode cX11_round 56 = .ok (.ifCond .ne 41, 3) := by decide +kernel
theorem dX11_round_59 : decode cX11_round 59 = .ok (.iinc 2 1, 3) := by decide +kernel
theorem dX11_round_62 : decode cX11_round 62 = .ok (.aload_n 0, 1) := by decide +kernel
theorem dX11_round_63 : decode cX11_round 63 = .ok (.getfield 35, 3) := by decide +kernel
theorem dX11_round_66 : decode cX11_round 66 = .ok (.aload_n 0, 1) := by decide +kernel
theorem dX11_round_67 : decode cX11_round 67 = .ok (.aload_n 0, 1) := by decide +kernel
theorem dX11_round_68 : decode cX11_round 68 = .ok (.getfield 29, 3) := by decide +kernel
theorem dX11_round_71 : decode cX11_round 71 = .ok (.invokevirtual 186, 3) := by decide +kernel
theorem dX11_round_74 : decode cX11_round 74 = .ok (.iload_n 2, 1) := by decide +kernel
theorem dX11_round_75 : decode cX11_round 75 = .ok (.iastore, 1) := by decide +kernel
theorem dX11_round_76 : decode cX11_round 76 = .ok (.aload_n 0, 1) := by decide +kernel
theorem dX11_round_77 : decode cX11_round 77 = .ok (.aload_n 0, 1) := by decide +kernel
theorem dX11_round_78 : decode cX11_round 78 = .ok (.getfield 29, 3) := by decide +kernel
theorem dX11_round_81 : decode cX11_round 81 = .ok (.invokevirtual 161, 3) := by decide +kernel
theorem dX11_round_84 : decode cX11_round 84 = .ok (.iconst (-1), 1) := by decide +kernel
theorem dX11_round_85 : decode cX11_round 85 = .ok (.if_icmp .eq 7, 3) := by decide +kernel
theorem dX11_round_88 : decode cX11_round 88 = .ok (.iconst 1, 1) := by decide +kernel
theorem dX11_round_89 : decode cX11_round 89 = .ok (.goto 4, 3) := by decide +kernel
theorem dX11_round_92 : decode cX11_round 92 = .ok (.iconst 0, 1) := by decide +kernel
theorem dX11_round_93 : decode cX11_round 93 = .ok (.istore_n 3, 1) := by decide +kernel
theorem dX11_round_94 : decode cX11_round 94 = .ok (.goto (-55), 3) := by decide +kernel
theorem dX11_round_97 : decode cX11_round 97 = .ok (.aload_n 0, 1) := by decide +kernel
theorem dX11_round_98 : decode cX11_round 98 = .ok (.iload_n 2, 1) := by decide +kernel
theorem dX11_round_99 : decode cX11_round 99 = .ok (.putfield 195, 3) := by decide +kernel
theorem dX11_round_102 : decode cX11_round 102 = .ok (.aload_n 0, 1) := by decide +kernel
theorem dX11_round_103 : decode cX11_round 103 = .ok (.iconst 0, 1) := by decide +kernel
theorem dX11_round_104 : decode cX11_round 104 = .ok (.putfield 198, 3) := by decide +kernel
theorem dX11_round_107 : decode cX11_round 107 = .ok (.aload_n 0, 1) := by decide +kernel
theorem dX11_round_108 : decode cX11_round 108 = .ok (.iconst 0, 1) := by decide +kernel
theorem dX11_round_109 : decode cX11_round 109 = .ok (.putfield 180, 3) := by decide +kernel
theorem dX11_round_112 : decode cX11_round 112 = .ok (.aload_n 0, 1) := by decide +kernel
theorem dX11_round_113 : decode cX11_round 113 = .ok (.iconst 0, 1) := by decide +kernel
theorem dX11_round_114 : decode cX11_round 114 = .ok (.putfield 183, 3) := by decide +kernel
theorem dX11_round_117 : decode cX11_round 117 = .ok (.iload_n 3, 1) := by decide +kernel
theorem dX11_round_118 : decode cX11_round 118 = .ok (.ifCond .eq 36, 3) := by decide +kernel
theorem dX11_round_121 : decode cX11_round 121 = .ok (.aload_n 0, 1) := by decide +kernel
theorem dX11_round_122 : decode cX11_round 122 = .ok (.aload_n 0, 1) := by decide +kernel
theorem dX11_round_123 : decode cX11_round 123 = .ok (.getfield 35, 3) := by decide +kernel
theorem dX11_round_126 : decode cX11_round 126 = .ok (.aload_n 0, 1) := by decide +kernel
theorem dX11_round_127 : decode cX11_round 127 = .ok (.aload_n 0, 1) := by decide +kernel
theorem dX11_round_128 : decode cX11_round 128 = .ok (.getfield 29, 3) := by decide +kernel
theorem dX11_round_131 : decode cX11_round 131 = .ok (.invokevirtual 186, 3) := by decide +kernel
theorem dX11_round_134 : decode cX11_round 134 = .ok (.iaload, 1) := by decide +kernel
theorem dX11_round_135 : decode cX11_round 135 = .ok (.iconst 1, 1) := by decide +kernel
theorem dX11_round_136 : decode cX11_round 136 = .ok (.isub, 1) := by decide +kernel
theorem dX11_round_137 : decode cX11_round 137 = .ok (.putfield 195, 3) := by decide +kernel
theorem dX11_round_140 : decode cX11_round 140 = .ok (.aload_n 0, 1) := by decide +kernel
theorem dX11_round_141 : decode cX11_round 141 = .ok (.iload_n 2, 1) := by decide +kernel
theorem dX11_round_142 : decode cX11_round 142 = .ok (.aload_n 0, 1) := by decide +kernel
theorem dX11_round_143 : decode cX11_round 143 = .ok (.getfield 195, 3) := by decide +kernel
theorem dX11_round_146 : decode cX11_round 146 = .ok (.isub, 1) := by decide +kernel
theorem dX11_round_147 : decode cX11_round 147 = .ok (.putfield 198, 3) := by decide +kernel
theorem dX11_round_150 : decode cX11_round 150 = .ok (.aload_n 0, 1) := by decide +kernel
theorem dX11_round_151 : decode cX11_round 151 = .ok (.invokevirtual 201, 3) := by decide +kernel
theorem dX11_round_154 : decode cX11_round 154 = .ok (.iload_n 1, 1) := by decide +kernel
theorem dX11_round_155 : decode cX11_round 155 = .ok (.ifCond .ne 10, 3) := by decide +kernel
theorem dX11_round_158 : decode cX11_round 158 = .ok (.aload_n 0, 1) := by decide +kernel
theorem dX11_round_159 : decode cX11_round 159 = .ok (.getfield 195, 3) := by decide +kernel
theorem dX11_round_162 : decode cX11_round 162 = .ok (.goto 31, 3) := by decide +kernel
theorem dX11_round_165 : decode cX11_round 165 = .ok (.iload_n 1, 1) := by decide +kernel
theorem dX11_round_166 : decode cX11_round 166 = .ok (.iconst 1, 1) := by decide +kernel
theorem dX11_round_167 : decode cX11_round 167 = .ok (.if_icmp .ne 10, 3) := by decide +kernel
theorem dX11_round_170 : decode cX11_round 170 = .ok (.aload_n 0, 1) := by decide +kernel
theorem dX11_round_171 : decode cX11_round 171 = .ok (.getfield 198, 3) := by decide +kernel
theorem dX11_round_174 : decode cX11_round 174 = .ok (.goto 19, 3) := by decide +kernel
theorem dX11_round_177 : decode cX11_round 177 = .ok (.iload_n 1, 1) := by decide +kernel
theorem dX11_round_178 : decode cX11_round 178 = .ok (.iconst 2, 1) := by decide +kernel
theorem dX11_round_179 : decode cX11_round 179 = .ok (.if_icmp .ne 10, 3) := by decide +kernel
theorem dX11_round_182 : decode cX11_round 182 = .ok (.aload_n 0, 1) := by decide +kernel
theorem dX11_round_183 : decode cX11_round 183 = .ok (.getfield 180, 3) := by decide +kernel
theorem dX11_round_186 : decode cX11_round 186 = .ok (.goto 7, 3) := by decide +kernel
theorem dX11_round_189 : decode cX11_round 189 = .ok (.aload_n 0, 1) := by decide +kernel
theorem dX11_round_190 : decode cX11_round 190 = .ok (.getfield 183, 3) := by decide +kernel
theorem dX11_round_193 : decode cX11_round 193 = .ok (.ireturn, 1) := by decide +kernel
set_option maxRecDepth 20000 in
theorem ggX11_isStartOf_X11_at : GoodIn wsX11_isStartOf wsX11_at := goodIn_r _ [7, 2, 8, 9, 10, 6, 11, 12, 13, 14, 15, 16, 17, 18, 19, 20, 21, 22, 23, 24, 25, 26, 27, 28, 29, 30, 31, 32, 33, 34, 35, 36, 37, 38, 39, 40, 41, 42, 43] (by decide +kernel) (by decide +kernel)
set_option maxRecDepth 20000 in
theorem gX11_isStartOf_X11_at : GoodIn wsX11_isStartOf (wsV RX11 131 RX11 yX11_at wsX11_at) := goodIn_app (goodIn_of _ (by decide +kernel)) ggX11_isStartOf_X11_at
theorem dX11_isStartOf_0 : decode cX11_isStartOf 0 = .ok (.aload_n 0, 1) := by decide +kernel
theorem dX11_isStartOf_1 : decode cX11_isStartOf 1 = .ok (.getfield 29, 3) := by decide +kernel
theorem dX11_isStartOf_4 : decode cX11_isStartOf 4 = .ok (.iconst 0, 1) := by decide +kernel
theorem dX11_isStartOf_5 : decode cX11_isStartOf 5 = .ok (.iload_n 1, 1) := by decide +kernel
theorem dX11_isStartOf_6 : decode cX11_isStartOf 6 = .ok (.bipush 8, 2) := by decide +kernel
theorem dX11_isStartOf_8 : decode cX11_isStartOf 8 = .ok (.idiv, 1) := by decide +kernel
theorem dX11_isStartOf_9 : decode cX11_isStartOf 9 = .ok (.aload_n 0, 1) := by decide +kernel
theorem dX11_isStartOf_10 : decode cX11_isStartOf 10 = .ok (.getfield 13, 3) := by decide +kernel
theorem dX11_isStartOf_13 : decode cX11_isStartOf 13 = .ok (.iconst 0, 1) := by decide +kernel
theorem dX11_isStartOf_14 : decode cX11_isStartOf 14 = .ok (.iaload, 1) := by decide +kernel
theorem dX11_isStartOf_15 : decode cX11_isStartOf 15 = .ok (.irem, 1) := by decide +kernel
theorem dX11_isStartOf_16 : decode cX11_isStartOf 16 = .ok (.iastore, 1) := by decide +kernel
theorem dX11_isStartOf_17 : decode cX11_isStartOf 17 = .ok (.aload_n 0, 1) := by decide +kernel
theorem dX11_isStartOf_18 : decode cX11_isStartOf 18 = .ok (.getfield 29, 3) := by decide +kernel
theorem dX11_isStartOf_21 : decode cX11_isStartOf 21 = .ok (.iconst 1, 1) := by decide +kernel
theorem dX11_isStartOf_22 : decode cX11_isStartOf 22 = .ok (.iload_n 1, 1) := by decide +kernel
theorem dX11_isStartOf_23 : decode cX11_isStartOf 23 = .ok (.bipush 8, 2) := by decide +kernel
theorem dX11_isStartOf_25 : decode cX11_isStartOf 25 = .ok (.idiv, 1) := by decide +kernel
theorem dX11_isStartOf_26 : decode cX11_isStartOf 26 = .ok (.aload_n 0, 1) := by decide +kernel
theorem dX11_isStartOf_27 : decode cX11_isStartOf 27 = .ok (.getfield 13, 3) := by decide +kernel
theorem dX11_isStartOf_30 : decode cX11_isStartOf 30 = .ok (.iconst 0, 1) := by decide +kernel
theorem dX11_isStartOf_31 : decode cX11_isStartOf 31 = .ok (.iaload, 1) := by decide +kernel
theorem dX11_isStartOf_32 : decode cX11_isStartOf 32 = .ok (.idiv, 1) := by decide +kernel
theorem dX11_isStartOf_33 : decode cX11_isStartOf 33 = .ok (.iastore, 1) := by decide +kernel
theorem dX11_isStartOf_34 : decode cX11_isStartOf 34 = .ok (.aload_n 0, 1) := by decide +kernel
theorem dX11_isStartOf_35 : decode cX11_isStartOf 35 = .ok (.getfield 29, 3) := by decide +kernel
theorem dX11_isStartOf_38 : decode cX11_isStartOf 38 = .ok (.iconst 2, 1) := by decide +kernel
theorem dX11_isStartOf_39 : decode cX11_isStartOf 39 = .ok (.iload_n 1, 1) := by decide +kernel
theorem dX11_isStartOf_40 : decode cX11_isStartOf 40 = .ok (.bipush 8, 2) := by decide +kernel
theorem dX11_isStartOf_42 : decode cX11_isStartOf 42 = .ok (.irem, 1) := by decide +kernel
theorem dX11_isStartOf_43 : decode cX11_isStartOf 43 = .ok (.iastore, 1) := by decide +kernel
theorem dX11_isStartOf_44 : decode cX11_isStartOf 44 = .ok (.aload_n 0, 1) := by decide +kernel
theorem dX11_isStartOf_45 : decode cX11_isStartOf 45 = .ok (.getfield 29, 3) := by decide +kernel
theorem dX11_isStartOf_48 : decode cX11_isStartOf 48 = .ok (.iconst 3, 1) := by decide +kernel
theorem dX11_isStartOf_49 : decode cX11_isStartOf 49 = .ok (.iconst 0, 1) := by decide +kernel
theorem dX11_isStartOf_50 : decode cX11_isStartOf 50 = .ok (.iastore, 1) := by decide +kernel
theorem dX11_isStartOf_51 : decode cX11_isStartOf 51 = .ok (.aload_n 0, 1) := by decide +kernel
theorem dX11_isStartOf_52 : decode cX11_isStartOf 52 = .ok (.aload_n 0, 1) := by decide +kernel
theorem dX11_isStartOf_53 : decode cX11_isStartOf 53 = .ok (.getfield 29, 3) := by decide +kernel
theorem dX11_isStartOf_56 : decode cX11_isStartOf 56 = .ok (.iconst 0, 1) := by decide +kernel
theorem dX11_isStartOf_57 : decode cX11_isStartOf 57 = .ok (.iaload, 1) := by decide +kernel
theorem dX11_isStartOf_58 : decode cX11_isStartOf 58 = .ok (.aload_n 0, 1) := by decide +kernel
theorem dX11_isStartOf_59 : decode cX11_isStartOf 59 = .ok (.getfield 29, 3) := by decide +kernel
theorem dX11_isStartOf_62 : decode cX11_isStartOf 62 = .ok (.iconst 1, 1) := by decide +kernel
theorem dX11_isStartOf_63 : decode cX11_isStartOf 63 = .ok (.iaload, 1) := by decide +kernel
theorem dX11_isStartOf_64 : decode cX11_isStartOf 64 = .ok (.invokevirtual 131, 3) := by decide +kernel
theorem dX11_isStartOf_67 : decode cX11_isStartOf 67 = .ok (.ifCond .ne 7, 3) := by decide +kernel
theorem dX11_isStartOf_70 : decode cX11_isStartOf 70 = .ok (.iconst 1, 1) := by decide +kernel
theorem dX11_isStartOf_71 : decode cX11_isStartOf 71 = .ok (.goto 4, 3) := by decide +kernel
theorem dX11_isStartOf_74 : decode cX11_isStartOf 74 = .ok (.iconst 0, 1) := by decide +kernel
theorem dX11_isStartOf_75 : decode cX11_isStartOf 75 = .ok (.ireturn, 1) := by decide +kernel
set_option maxRecDepth 20000 in
theorem ggX11_goesAll_X11_unmarks : GoodIn wsX11_goesAll wsX11_unmarks := goodIn_r _ [11, 12, 83, 84, 85, 86, 87, 88, 89, 90, 91, 92, 93, 94, 95, 96, 97, 98, 99, 100, 101, 102, 103, 104, 105, 106, 107, 108, 109, 110, 111, 112, 113, 114] (by decide +kernel) (by decide +kernel)
set_option maxRecDepth 20000 in
theorem gX11_goesAll_X11_unmarks : GoodIn wsX11_goesAll (wsV RX11 192 RX11 yX11_unmarks wsX11_unmarks) := goodIn_app (goodIn_of _ (by decide +kernel)) ggX11_goesAll_X11_unmarks
set_option maxRecDepth 20000 in
theorem ggX11_goesAll_X11_cells : GoodIn wsX11_goesAll wsX11_cells := goodIn_r _ [16, 17, 83, 84, 85, 86, 87, 88, 89, 90, 91, 92, 93, 94, 95, 96, 97, 98, 99, 100, 101, 102, 103, 104, 105, 106, 107, 108, 109, 110, 111, 112, 113, 114] (by decide +kernel) (by decide +kernel)
set_option maxRecDepth 20000 in
theorem gX11_goesAll_X11_cells : GoodIn wsX11_goesAll (wsV RX11 216 RX11 yX11_cells wsX11_cells) := goodIn_app (goodIn_of _ (by decide +kernel)) ggX11_goesAll_X11_cells
set_option maxRecDepth 20000 in
theorem ggX11_goesAll_X11_isStartOf : GoodIn wsX11_goesAll wsX11_isStartOf := goodIn_r _ [21, 22, 17, 23, 24, 25, 10, 26, 27, 28, 29, 30, 83, 84, 85, 86, 87, 88, 89, 90, 91, 92, 93, 94, 95, 96, 97, 98, 99, 100, 101, 102, 103, 104, 105, 106, 107, 108, 109, 110, 111, 112, 113, 114] (by decide +kernel) (by decide +kernel)
set_option maxRecDepth 20000 in
theorem gX11_goesAll_X11_isStartOf : GoodIn wsX11_goesAll (wsV RX11 219 RX11 yX11_isStartOf wsX11_isStartOf) := goodIn_app (goodIn_of _ (by decide +kernel)) ggX11_goesAll_X11_isStartOf
set_option maxRecDepth 20000 in
theorem ggX11_goesAll_X11_goesOne : GoodIn wsX11_goesAll wsX11_goesOne := goodIn_r _ [34, 12, 22, 6, 35, 36, 4, 5, 37, 38, 39, 10, 40, 41, 42, 43, 44, 17, 45, 46, 47, 48, 1, 49, 50, 51, 52, 53, 54, 55, 56, 57, 58, 23, 24, 25, 26, 27, 28, 29, 30, 59, 60, 61, 62, 63, 64, 65, 66, 67, 68, 69, 70, 71, 72, 73, 74, 75, 76, 77, 78, 79, 80, 81, 82, 18, 19, 20, 21, 83, 84, 85, 86, 87, 88, 89, 90, 91, 92, 93, 94, 95, 96, 97, 98, 99, 100, 101, 102, 103, 104, 105, 106, 107, 108, 109, 110, 111, 112, 113, 114] (by decide +kernel) (by decide +kernel)
set_option maxRecDepth 20000 in
theorem gX11_goesAll_X11_goesOne : GoodIn wsX11_goesAll (wsV RX11 223 RX11 yX11_goesOne wsX11_goesOne) := goodIn_app (goodIn_of _ (by decide +kernel)) ggX11_goesAll_X11_goesOne
theorem dX11_goesAll_0 : decode cX11_goesAll 0 = .ok (.aload_n 0, 1) := by decide +kernel
theorem dX11_goesAll_1 : decode cX11_goesAll 1 = .ok (.iconst 0, 1) := by decide +kernel
theorem dX11_goesAll_2 : decode cX11_goesAll 2 = .ok (.putfield 154, 3) := by decide +kernel
theorem dX11_goesAll_5 : decode cX11_goesAll 5 = .ok (.aload_n 0, 1) := by decide +kernel
theorem dX11_goesAll_6 : decode cX11_goesAll 6 = .ok (.invokevirtual 192, 3) := by decide +kernel
theorem dX11_goesAll_9 : decode cX11_goesAll 9 = .ok (.aload_n 0, 1) := by decide +kernel
theorem dX11_goesAll_10 : decode cX11_goesAll 10 = .ok (.iconst 0, 1) := by decide +kernel
theorem dX11_goesAll_11 : decode cX11_goesAll 11 = .ok (.putfield 204, 3) := by decide +kernel
theorem dX11_goesAll_14 : decode cX11_goesAll 14 = .ok (.aload_n 0, 1) := by decide +kernel
theorem dX11_goesAll_15 : decode cX11_goesAll 15 = .ok (.iconst 0, 1) := by decide +kernel
theorem dX11_goesAll_16 : decode cX11_goesAll 16 = .ok (.putfield 207, 3) := by decide +kernel
theorem dX11_goesAll_19 : decode cX11_goesAll 19 = .ok (.aload_n 0, 1) := by decide +kernel
theorem dX11_goesAll_20 : decode cX11_goesAll 20 = .ok (.iconst 0, 1) := by decide +kernel
theorem dX11_goesAll_21 : decode cX11_goesAll 21 = .ok (.putfield 210, 3) := by decide +kernel
theorem dX11_goesAll_24 : decode cX11_goesAll 24 = .ok (.aload_n 0, 1) := by decide +kernel
theorem dX11_goesAll_25 : decode cX11_goesAll 25 = .ok (.iconst 0, 1) := by decide +kernel
theorem dX11_goesAll_26 : decode cX11_goesAll 26 = .ok (.putfield 213, 3) := by decide +kernel
theorem dX11_goesAll_29 : decode cX11_goesAll 29 = .ok (.iconst 0, 1) := by decide +kernel
theorem dX11_goesAll_30 : decode cX11_goesAll 30 = .ok (.istore_n 1, 1) := by decide +kernel
theorem dX11_goesAll_31 : decode cX11_goesAll 31 = .ok (.iload_n 1, 1) := by decide +kernel
theorem dX11_goesAll_32 : decode cX11_goesAll 32 = .ok (.sipush 256, 3) := by decide +kernel
theorem dX11_goesAll_35 : decode cX11_goesAll 35 = .ok (.if_icmp .ge 16, 3) := by decide +kernel
theorem dX11_goesAll_38 : decode cX11_goesAll 38 = .ok (.aload_n 0, 1) := by decide +kernel
theorem dX11_goesAll_39 : decode cX11_goesAll 39 = .ok (.getfield 41, 3) := by decide +kernel
theorem dX11_goesAll_42 : decode cX11_goesAll 42 = .ok (.iload_n 1, 1) := by decide +kernel
theorem dX11_goesAll_43 : decode cX11_goesAll 43 = .ok (.iconst 0, 1) := by decide +kernel
theorem dX11_goesAll_44 : decode cX11_goesAll 44 = .ok (.iastore, 1) := by decide +kernel
theorem dX11_goesAll_45 : decode cX11_goesAll 45 = .ok (.iinc 1 1, 3) := by decide +kernel
theorem dX11_goesAll_48 : decode cX11_goesAll 48 = .ok (.goto (-17), 3) := by decide +kernel
theorem dX11_goesAll_51 : decode cX11_goesAll 51 = .ok (.iconst 0, 1) := by decide +kernel
theorem dX11_goesAll_52 : decode cX11_goesAll 52 = .ok (.istore_n 1, 1) := by decide +kernel
theorem dX11_goesAll_53 : decode cX11_goesAll 53 = .ok (.iload_n 1, 1) := by decide +kernel
theorem dX11_goesAll_54 : decode cX11_goesAll 54 = .ok (.bipush 8, 2) := by decide +kernel
theorem dX11_goesAll_56 : decode cX11_goesAll 56 = .ok (.aload_n 0, 1) := by decide +kernel
theorem dX11_goesAll_57 : decode cX11_goesAll 57 = .ok (.invokevirtual 216, 3) := by decide +kernel
theorem dX11_goesAll_60 : decode cX11_goesAll 60 = .ok (.imul, 1) := by decide +kernel
theorem dX11_goesAll_61 : decode cX11_goesAll 61 = .ok (.if_icmp .ge 61, 3) := by decide +kernel
theorem dX11_goesAll_64 : decode cX11_goesAll 64 = .ok (.aload_n 0, 1) := by decide +kernel
theorem dX11_goesAll_65 : decode cX11_goesAll 65 = .ok (.iload_n 1, 1) := by decide +kernel
theorem dX11_goesAll_66 : decode cX11_goesAll 66 = .ok (.invokevirtual 219, 3) := by decide +kernel
theorem dX11_goesAll_69 : decode cX11_goesAll 69 = .ok (.ifCond .eq 47, 3) := by decide +kernel
theorem dX11_goesAll_72 : decode cX11_goesAll 72 = .ok (.aload_n 0, 1) := by decide +kernel
theorem dX11_goesAll_73 : decode cX11_goesAll 73 = .ok (.iload_n 1, 1) := by decide +kernel
theorem dX11_goesAll_74 : decode cX11_goesAll 74 = .ok (.invokevirtual 223, 3) := by decide +kernel
theorem dX11_goesAll_77 : decode cX11_goesAll 77 = .ok (.istore_n 2, 1) := by decide +kernel
theorem dX11_goesAll_78 : decode cX11_goesAll 78 = .ok (.aload_n 0, 1) := by decide +kernel
theorem dX11_goesAll_79 : decode cX11_goesAll 79 = .ok (.dup, 1) := by decide +kernel
theorem dX11_goesAll_80 : decode cX11_goesAll 80 = .ok (.getfield 204, 3) := by decide +kernel
theorem dX11_goesAll_83 : decode cX11_goesAll 83 = .ok (.iload_n 2, 1) := by decide +kernel
theorem dX11_goesAll_84 : decode cX11_goesAll 84 = .ok (.iconst 1, 1) := by decide +kernel
theorem dX11_goesAll_85 : decode cX11_goesAll 85 = .ok (.if_icmp .ne 7, 3) := by decide +kernel
theorem dX11_goesAll_88 : decode cX11_goesAll 88 = .ok (.iconst 1, 1) := by decide +kernel
theorem dX11_goesAll_89 : decode cX11_goesAll 89 = .ok (.goto 4, 3) := by decide +kernel
theorem dX11_goesAll_92 : decode cX11_goesAll 92 = .ok (.iconst 0, 1) := by decide +kernel
theorem dX11_goesAll_93 : decode cX11_goesAll 93 = .ok (.iadd, 1) := by decide +kernel
theorem dX11_goesAll_94 : decode cX11_goesAll 94 = .ok (.putfield 204, 3) := by decide +kernel
theorem dX11_goesAll_97 : decode cX11_goesAll 97 = .ok (.aload_n 0, 1) := by decide +kernel
theorem dX11_goesAll_98 : decode cX11_goesAll 98 = .ok (.dup, 1) := by decide +kernel
theorem dX11_goesAll_99 : decode cX11_goesAll 99 = .ok (.getfield 207, 3) := by decide +kernel
theorem dX11_goesAll_102 : decode cX11_goesAll 102 = .ok (.iload_n 2, 1) := by decide +kernel
theorem dX11_goesAll_103 : decode cX11_goesAll 103 = .ok (.iconst 2, 1) := by decide +kernel
theorem dX11_goesAll_104 : decode cX11_goesAll 104 = .ok (.if_icmp .ne 7, 3) := by decide +kernel
theorem dX11_goesAll_107 : decode cX11_goesAll 107 = .ok (.iconst 1, 1) := by decide +kernel
theorem dX11_goesAll_108 : decode cX11_goesAll 108 = .ok (.goto 4, 3) := by decide +kernel
theorem dX11_goesAll_111 : decode cX11_goesAll 111 = .ok (.iconst 0, 1) := by decide +kernel
theorem dX11_goesAll_112 : decode cX11_goesAll 112 = .ok (.iadd, 1) := by decide +kernel
theorem dX11_goesAll_113 : decode cX11_goesAll 113 = .ok (.putfield 207, 3) := by decide +kernel
theorem dX11_goesAll_116 : decode cX11_goesAll 116 = .ok (.iinc 1 1, 3) := by decide +kernel
theorem dX11_goesAll_119 : decode cX11_goesAll 119 = .ok (.goto (-66), 3) := by decide +kernel
theorem dX11_goesAll_122 : decode cX11_goesAll 122 = .ok (.return_, 1) := by decide +kernel
set_option maxRecDepth 20000 in
theorem ggX11_goesOne_X11_stand : GoodIn wsX11_goesOne wsX11_stand := goodIn_r _ [12, 13, 14, 15, 11, 16, 17, 69, 70, 71, 72, 73, 74, 75, 76, 77, 78, 79, 80, 81, 82, 83, 84, 85, 86, 87, 88, 89, 90, 91, 92, 93, 94, 95, 96, 97, 98, 99, 100] (by decide +kernel) (by decide +kernel)
set_option maxRecDepth 20000 in
theorem gX11_goesOne_X11_stand : GoodIn wsX11_goesOne (wsV RX11 186 RX11 yX11_stand wsX11_stand) := goodIn_app (goodIn_of _ (by decide +kernel)) ggX11_goesOne_X11_stand
set_option maxRecDepth 20000 in
theorem ggX11_goesOne_X11_steps : GoodIn wsX11_goesOne wsX11_steps := goodIn_r _ [21, 22, 17, 23, 24, 25, 11, 26, 27, 28, 29, 30, 31, 32, 33, 34, 35, 36, 37, 38, 39, 40, 41, 42, 43, 44, 45, 46, 47, 48, 49, 50, 51, 52, 53, 54, 55, 69, 70, 71, 72, 73, 74, 75, 76, 77, 78, 79, 80, 81, 82, 83, 84, 85, 86, 87, 88, 89, 90, 91, 92, 93, 94, 95, 96, 97, 98, 99, 100] (by decide +kernel) (by decide +kernel)
set_option maxRecDepth 20000 in
theorem gX11_goesOne_X11_steps : GoodIn wsX11_goesOne (wsV RX11 161 RX11 yX11_steps wsX11_steps) := goodIn_app (goodIn_of _ (by decide +kernel)) ggX11_goesOne_X11_steps
set_option maxRecDepth 20000 in
theorem ggX11_goesOne_X11_goesRound : GoodIn wsX11_goesOne wsX11_goesRound := goodIn_r _ [59, 5, 60, 2, 4, 61, 62, 63, 11, 64, 8, 9, 10, 12, 13, 14, 15, 16, 17, 18, 19, 20, 21, 22, 23, 24, 25, 26, 27, 28, 29, 30, 31, 32, 33, 34, 35, 36, 37, 38, 39, 40, 41, 42, 43, 44, 45, 46, 47, 48, 49, 50, 51, 52, 53, 54, 55, 69, 70, 71, 72, 73, 74, 75, 76, 77, 78, 79, 80, 81, 82, 83, 84, 85, 86, 87, 88, 89, 90, 91, 92, 93, 94, 95, 96, 97, 98, 99, 100] (by decide +kernel) (by decide +kernel)
set_option maxRecDepth 20000 in
theorem gX11_goesOne_X11_goesRound : GoodIn wsX11_goesOne (wsV RX11 201 RX11 yX11_goesRound wsX11_goesRound) := goodIn_app (goodIn_of _ (by decide +kernel)) ggX11_goesOne_X11_goesRound
set_option maxRecDepth 20000 in
theorem ggX11_goesOne_X11_isStartOf : GoodIn wsX11_goesOne wsX11_isStartOf := goodIn_r _ [68, 2, 17, 33, 34, 35, 11, 36, 37, 38, 39, 40, 69, 70, 71, 72, 73, 74, 75, 76, 77, 78, 79, 80, 81, 82, 83, 84, 85, 86, 87, 88, 89, 90, 91, 92, 93, 94, 95, 96, 97, 98, 99, 100] (by decide +kernel) (by decide +kernel)
set_option maxRecDepth 20000 in
theorem gX11_goesOne_X11_isStartOf : GoodIn wsX11_goesOne (wsV RX11 219 RX11 yX11_isStartOf wsX11_isStartOf) := goodIn_app (goodIn_of _ (by decide +kernel)) ggX11_goesOne_X11_isStartOf
theorem dX11_goesOne_0 : decode cX11_goesOne 0 = .ok (.iconst 0, 1) := by decide +kernel
theorem dX11_goesOne_1 : decode cX11_goesOne 1 = .ok (.istore_n 2, 1) := by decide +kernel
theorem dX11_goesOne_2 : decode cX11_goesOne 2 = .ok (.iconst 1, 1) := by decide +kernel
theorem dX11_goesOne_3 : decode cX11_goesOne 3 = .ok (.istore_n 3, 1) := by decide +kernel
theorem dX11_goesOne_4 : decode cX11_goesOne 4 = .ok (.iload_n 3, 1) := by decide +kernel
theorem dX11_goesOne_5 : decode cX11_goesOne 5 = .ok (.ifCond .eq 59, 3) := by decide +kernel
theorem dX11_goesOne_8 : decode cX11_goesOne 8 = .ok (.aload_n 0, 1) := by decide +kernel
theorem dX11_goesOne_9 : decode cX11_goesOne 9 = .ok (.getfield 35, 3) := by decide +kernel
theorem dX11_goesOne_12 : decode cX11_goesOne 12 = .ok (.aload_n 0, 1) := by decide +kernel
theorem dX11_goesOne_13 : decode cX11_goesOne 13 = .ok (.aload_n 0, 1) := by decide +kernel
theorem dX11_goesOne_14 : decode cX11_goesOne 14 = .ok (.getfield 29, 3) := by decide +kernel
theorem dX11_goesOne_17 : decode cX11_goesOne 17 = .ok (.invokevirtual 186, 3) := by decide +kernel
theorem dX11_goesOne_20 : decode cX11_goesOne 20 = .ok (.iaload, 1) := by decide +kernel
theorem dX11_goesOne_21 : decode cX11_goesOne 21 = .ok (.ifCond .ne 43, 3) := by decide +kernel
theorem dX11_goesOne_24 : decode cX11_goesOne 24 = .ok (.iinc 2 1, 3) := by decide +kernel
theorem dX11_goesOne_27 : decode cX11_goesOne 27 = .ok (.aload_n 0, 1) := by decide +kernel
theorem dX11_goesOne_28 : decode cX11_goesOne 28 = .ok (.getfield 35, 3) := by decide +kernel
theorem dX11_goesOne_31 : decode cX11_goesOne 31 = .ok (.aload_n 0, 1) := by decide +kernel
theorem dX11_goesOne_32 : decode cX11_goesOne 32 = .ok (.aload_n 0, 1) := by decide +kernel
theorem dX11_goesOne_33 : decode cX11_goesOne 33 = .ok (.getfield 29, 3) := by decide +kernel
theorem dX11_goesOne_36 : decode cX11_goesOne 36 = .ok (.invokevirtual 186, 3) := by decide +kernel
theorem dX11_goesOne_39 : decode cX11_goesOne 39 = .ok (.iconst (-1), 1) := by decide +kernel
theorem dX11_goesOne_40 : decode cX11_goesOne 40 = .ok (.iload_n 1, 1) := by decide +kernel
theorem dX11_goesOne_41 : decode cX11_goesOne 41 = .ok (.isub, 1) := by decide +kernel
theorem dX11_goesOne_42 : decode cX11_goesOne 42 = .ok (.iastore, 1) := by decide +kernel
theorem dX11_goesOne_43 : decode cX11_goesOne 43 = .ok (.aload_n 0, 1) := by decide +kernel
theorem dX11_goesOne_44 : decode cX11_goesOne 44 = .ok (.aload_n 0, 1) := by decide +kernel
theorem dX11_goesOne_45 : decode cX11_goesOne 45 = .ok (.getfield 29, 3) := by decide +kernel
theorem dX11_goesOne_48 : decode cX11_goesOne 48 = .ok (.invokevirtual 161, 3) := by decide +kernel
theorem dX11_goesOne_51 : decode cX11_goesOne 51 = .ok (.iconst (-1), 1) := by decide +kernel
theorem dX11_goesOne_52 : decode cX11_goesOne 52 = .ok (.if_icmp .eq 7, 3) := by decide +kernel
theorem dX11_goesOne_55 : decode cX11_goesOne 55 = .ok (.iconst 1, 1) := by decide +kernel
theorem dX11_goesOne_56 : decode cX11_goesOne 56 = .ok (.goto 4, 3) := by decide +kernel
theorem dX11_goesOne_59 : decode cX11_goesOne 59 = .ok (.iconst 0, 1) := by decide +kernel
theorem dX11_goesOne_60 : decode cX11_goesOne 60 = .ok (.istore_n 3, 1) := by decide +kernel
theorem dX11_goesOne_61 : decode cX11_goesOne 61 = .ok (.goto (-57), 3) := by decide +kernel
theorem dX11_goesOne_64 : decode cX11_goesOne 64 = .ok (.iconst 1, 1) := by decide +kernel
theorem dX11_goesOne_65 : decode cX11_goesOne 65 = .ok (.istore 4, 2) := by decide +kernel
theorem dX11_goesOne_67 : decode cX11_goesOne 67 = .ok (.iload_n 3, 1) := by decide +kernel
theorem dX11_goesOne_68 : decode cX11_goesOne 68 = .ok (.ifCond .eq 165, 3) := by decide +kernel
theorem dX11_goesOne_71 : decode cX11_goesOne 71 = .ok (.aload_n 0, 1) := by decide +kernel
theorem dX11_goesOne_72 : decode cX11_goesOne 72 = .ok (.getfield 35, 3) := by decide +kernel
theorem dX11_goesOne_75 : decode cX11_goesOne 75 = .ok (.aload_n 0, 1) := by decide +kernel
theorem dX11_goesOne_76 : decode cX11_goesOne 76 = .ok (.aload_n 0, 1) := by decide +kernel
theorem dX11_goesOne_77 : decode cX11_goesOne 77 = .ok (.getfield 29, 3) := by decide +kernel
theorem dX11_goesOne_80 : decode cX11_goesOne 80 = .ok (.invokevirtual 186, 3) := by decide +kernel
theorem dX11_goesOne_83 : decode cX11_goesOne 83 = .ok (.iaload, 1) := by decide +kernel
theorem dX11_goesOne_84 : decode cX11_goesOne 84 = .ok (.iconst (-1), 1) := by decide +kernel
theorem dX11_goesOne_85 : decode cX11_goesOne 85 = .ok (.iload_n 1, 1) := by decide +kernel
theorem dX11_goesOne_86 : decode cX11_goesOne 86 = .ok (.isub, 1) := by decide +kernel
theorem dX11_goesOne_87 : decode cX11_goesOne 87 = .ok (.if_icmp .ne 146, 3) := by decide +kernel
theorem dX11_goesOne_90 : decode cX11_goesOne 90 = .ok (.aload_n 0, 1) := by decide +kernel
theorem dX11_goesOne_91 : decode cX11_goesOne 91 = .ok (.aload_n 0, 1) := by decide +kernel
theorem dX11_goesOne_92 : decode cX11_goesOne 92 = .ok (.getfield 29, 3) := by decide +kernel
theorem dX11_goesOne_95 : decode cX11_goesOne 95 = .ok (.invokevirtual 186, 3) := by decide +kernel
theorem dX11_goesOne_98 : decode cX11_goesOne 98 = .ok (.istore 5, 2) := by decide +kernel
theorem dX11_goesOne_100 : decode cX11_goesOne 100 = .ok (.iconst 0, 1) := by decide +kernel
theorem dX11_goesOne_101 : decode cX11_goesOne 101 = .ok (.istore 6, 2) := by decide +kernel
theorem dX11_goesOne_103 : decode cX11_goesOne 103 = .ok (.aload_n 0, 1) := by decide +kernel
theorem dX11_goesOne_104 : decode cX11_goesOne 104 = .ok (.invokevirtual 201, 3) := by decide +kernel
theorem dX11_goesOne_107 : decode cX11_goesOne 107 = .ok (.iconst 0, 1) := by decide +kernel
theorem dX11_goesOne_108 : decode cX11_goesOne 108 = .ok (.istore 7, 2) := by decide +kernel
theorem dX11_goesOne_110 : decode cX11_goesOne 110 = .ok (.iload 7, 2) := by decide +kernel
theorem dX11_goesOne_112 : decode cX11_goesOne 112 = .ok (.sipush 256, 3) := by decide +kernel
theorem dX11_goesOne_115 : decode cX11_goesOne 115 = .ok (.if_icmp .ge 26, 3) := by decide +kernel
theorem dX11_goesOne_118 : decode cX11_goesOne 118 = .ok (.aload_n 0, 1) := by decide +kernel
theorem dX11_goesOne_119 : decode cX11_goesOne 119 = .ok (.getfield 41, 3) := by decide +kernel
theorem dX11_goesOne_122 : decode cX11_goesOne 122 = .ok (.iload 7, 2) := by decide +kernel
theorem dX11_goesOne_124 : decode cX11_goesOne 124 = .ok (.dup2, 1) := by decide +kernel
theorem dX11_goesOne_125 : decode cX11_goesOne 125 = .ok (.iaload, 1) := by decide +kernel
theorem dX11_goesOne_126 : decode cX11_goesOne 126 = .ok (.aload_n 0, 1) := by decide +kernel
theorem dX11_goesOne_127 : decode cX11_goesOne 127 = .ok (.getfield 38, 3) := by decide +kernel
theorem dX11_goesOne_130 : decode cX11_goesOne 130 = .ok (.iload 7, 2) := by decide +kernel
theorem dX11_goesOne_132 : decode cX11_goesOne 132 = .ok (.iaload, 1) := by decide +kernel
theorem dX11_goesOne_133 : decode cX11_goesOne 133 = .ok (.iadd, 1) := by decide +kernel
theorem dX11_goesOne_134 : decode cX11_goesOne 134 = .ok (.iastore, 1) := by decide +kernel
theorem dX11_goesOne_135 : decode cX11_goesOne 135 = .ok (.iinc 7 1, 3) := by decide +kernel
theorem dX11_goesOne_138 : decode cX11_goesOne 138 = .ok (.goto (-28), 3) := by decide +kernel
theorem dX11_goesOne_141 : decode cX11_goesOne 141 = .ok (.aload_n 0, 1) := by decide +kernel
theorem dX11_goesOne_142 : decode cX11_goesOne 142 = .ok (.getfield 180, 3) := by decide +kernel
theorem dX11_goesOne_145 : decode cX11_goesOne 145 = .ok (.ifCond .ne 7, 3) := by decide +kernel
theorem dX11_goesOne_148 : decode cX11_goesOne 148 = .ok (.iconst 2, 1) := by decide +kernel
theorem dX11_goesOne_149 : decode cX11_goesOne 149 = .ok (.goto 4, 3) := by decide +kernel
theorem dX11_goesOne_152 : decode cX11_goesOne 152 = .ok (.iconst 3, 1) := by decide +kernel
theorem dX11_goesOne_153 : decode cX11_goesOne 153 = .ok (.istore 4, 2) := by decide +kernel
theorem dX11_goesOne_155 : decode cX11_goesOne 155 = .ok (.aload_n 0, 1) := by decide +kernel
theorem dX11_goesOne_156 : decode cX11_goesOne 156 = .ok (.dup, 1) := by decide +kernel
theorem dX11_goesOne_157 : decode cX11_goesOne 157 = .ok (.getfield 210, 3) := by decide +kernel
theorem dX11_goesOne_160 : decode cX11_goesOne 160 = .ok (.iconst 1, 1) := by decide +kernel
theorem dX11_goesOne_161 : decode cX11_goesOne 161 = .ok (.iadd, 1) := by decide +kernel
theorem dX11_goesOne_162 : decode cX11_goesOne 162 = .ok (.putfield 210, 3) := by decide +kernel
theorem dX11_goesOne_165 : decode cX11_goesOne 165 = .ok (.iconst 1, 1) := by decide +kernel
theorem dX11_goesOne_166 : decode cX11_goesOne 166 = .ok (.istore 7, 2) := by decide +kernel
theorem dX11_goesOne_168 : decode cX11_goesOne 168 = .ok (.iload 7, 2) := by decide +kernel
theorem dX11_goesOne_170 : decode cX11_goesOne 170 = .ok (.ifCond .eq 38, 3) := by decide +kernel
theorem dX11_goesOne_173 : decode cX11_goesOne 173 = .ok (.aload_n 0, 1) := by decide +kernel
theorem dX11_goesOne_174 : decode cX11_goesOne 174 = .ok (.aload_n 0, 1) := by decide +kernel
theorem dX11_goesOne_175 : decode cX11_goesOne 175 = .ok (.getfield 29, 3) := by decide +kernel
theorem dX11_goesOne_178 : decode cX11_goesOne 178 = .ok (.invokevirtual 161, 3) := by decide +kernel
theorem dX11_goesOne_181 : decode cX11_goesOne 181 = .ok (.pop, 1) := by decide +kernel
theorem dX11_goesOne_182 : decode cX11_goesOne 182 = .ok (.iinc 6 1, 3) := by decide +kernel
theorem dX11_goesOne_185 : decode cX11_goesOne 185 = .ok (.aload_n 0, 1) := by decide +kernel
theorem dX11_goesOne_186 : decode cX11_goesOne 186 = .ok (.aload_n 0, 1) := by decide +kernel
theorem dX11_goesOne_187 : decode cX11_goesOne 187 = .ok (.getfield 29, 3) := by decide +kernel
theorem dX11_goesOne_190 : decode cX11_goesOne 190 = .ok (.invokevirtual 186, 3) := by decide +kernel
theorem dX11_goesOne_193 : decode cX11_goesOne 193 = .ok (.iload 5, 2) := by decide +kernel
theorem dX11_goesOne_195 : decode cX11_goesOne 195 = .ok (.if_icmp .eq 7, 3) := by decide +kernel
theorem dX11_goesOne_198 : decode cX11_goesOne 198 = .ok (.iconst 1, 1) := by decide +kernel
theorem dX11_goesOne_199 : decode cX11_goesOne 199 = .ok (.goto 4, 3) := by decide +kernel
theorem dX11_goesOne_202 : decode cX11_goesOne 202 = .ok (.iconst 0, 1) := by decide +kernel
theorem dX11_goesOne_203 : decode cX11_goesOne 203 = .ok (.istore 7, 2) := by decide +kernel
theorem dX11_goesOne_205 : decode cX11_goesOne 205 = .ok (.goto (-37), 3) := by decide +kernel
theorem dX11_goesOne_208 : decode cX11_goesOne 208 = .ok (.aload_n 0, 1) := by decide +kernel
theorem dX11_goesOne_209 : decode cX11_goesOne 209 = .ok (.iload 6, 2) := by decide +kernel
theorem dX11_goesOne_211 : decode cX11_goesOne 211 = .ok (.aload_n 0, 1) := by decide +kernel
theorem dX11_goesOne_212 : decode cX11_goesOne 212 = .ok (.getfield 213, 3) := by decide +kernel
theorem dX11_goesOne_215 : decode cX11_goesOne 215 = .ok (.if_icmp .le 8, 3) := by decide +kernel
theorem dX11_goesOne_218 : decode cX11_goesOne 218 = .ok (.iload 6, 2) := by decide +kernel
theorem dX11_goesOne_220 : decode cX11_goesOne 220 = .ok (.goto 7, 3) := by decide +kernel
theorem dX11_goesOne_223 : decode cX11_goesOne 223 = .ok (.aload_n 0, 1) := by decide +kernel
theorem dX11_goesOne_224 : decode cX11_goesOne 224 = .ok (.getfield 213, 3) := by decide +kernel
theorem dX11_goesOne_227 : decode cX11_goesOne 227 = .ok (.putfield 213, 3) := by decide +kernel
theorem dX11_goesOne_230 : decode cX11_goesOne 230 = .ok (.goto 22, 3) := by decide +kernel
theorem dX11_goesOne_233 : decode cX11_goesOne 233 = .ok (.iload_n 3, 1) := by decide +kernel
theorem dX11_goesOne_234 : decode cX11_goesOne 234 = .ok (.ifCond .eq 18, 3) := by decide +kernel
theorem dX11_goesOne_237 : decode cX11_goesOne 237 = .ok (.aload_n 0, 1) := by decide +kernel
theorem dX11_goesOne_238 : decode cX11_goesOne 238 = .ok (.getfield 35, 3) := by decide +kernel
theorem dX11_goesOne_241 : decode cX11_goesOne 241 = .ok (.aload_n 0, 1) := by decide +kernel
theorem dX11_goesOne_242 : decode cX11_goesOne 242 = .ok (.aload_n 0, 1) := by decide +kernel
theorem dX11_goesOne_243 : decode cX11_goesOne 243 = .ok (.getfield 29, 3) := by decide +kernel
theorem dX11_goesOne_246 : decode cX11_goesOne 246 = .ok (.invokevirtual 186, 3) := by decide +kernel
theorem dX11_goesOne_249 : decode cX11_goesOne 249 = .ok (.iaload, 1) := by decide +kernel
theorem dX11_goesOne_250 : decode cX11_goesOne 250 = .ok (.istore 4, 2) := by decide +kernel
theorem dX11_goesOne_252 : decode cX11_goesOne 252 = .ok (.aload_n 0, 1) := by decide +kernel
theorem dX11_goesOne_253 : decode cX11_goesOne 253 = .ok (.iload_n 1, 1) := by decide +kernel
theorem dX11_goesOne_254 : decode cX11_goesOne 254 = .ok (.invokevirtual 219, 3) := by decide +kernel
theorem dX11_goesOne_257 : decode cX11_goesOne 257 = .ok (.pop, 1) := by decide +kernel
theorem dX11_goesOne_258 : decode cX11_goesOne 258 = .ok (.iconst 0, 1) := by decide +kernel
theorem dX11_goesOne_259 : decode cX11_goesOne 259 = .ok (.istore 5, 2) := by decide +kernel
theorem dX11_goesOne_261 : decode cX11_goesOne 261 = .ok (.iload 5, 2) := by decide +kernel
theorem dX11_goesOne_263 : decode cX11_goesOne 263 = .ok (.iload_n 2, 1) := by decide +kernel
theorem dX11_goesOne_264 : decode cX11_goesOne 264 = .ok (.if_icmp .ge 33, 3) := by decide +kernel
theorem dX11_goesOne_267 : decode cX11_goesOne 267 = .ok (.aload_n 0, 1) := by decide +kernel
theorem dX11_goesOne_268 : decode cX11_goesOne 268 = .ok (.getfield 35, 3) := by decide +kernel
theorem dX11_goesOne_271 : decode cX11_goesOne 271 = .ok (.aload_n 0, 1) := by decide +kernel
theorem dX11_goesOne_272 : decode cX11_goesOne 272 = .ok (.aload_n 0, 1) := by decide +kernel
theorem dX11_goesOne_273 : decode cX11_goesOne 273 = .ok (.getfield 29, 3) := by decide +kernel
theorem dX11_goesOne_276 : decode cX11_goesOne 276 = .ok (.invokevirtual 186, 3) := by decide +kernel
theorem dX11_goesOne_279 : decode cX11_goesOne 279 = .ok (.iload 4, 2) := by decide +kernel
theorem dX11_goesOne_281 : decode cX11_goesOne 281 = .ok (.iastore, 1) := by decide +kernel
theorem dX11_goesOne_282 : decode cX11_goesOne 282 = .ok (.aload_n 0, 1) := by decide +kernel
theorem dX11_goesOne_283 : decode cX11_goesOne 283 = .ok (.aload_n 0, 1) := by decide +kernel
theorem dX11_goesOne_284 : decode cX11_goesOne 284 = .ok (.getfield 29, 3) := by decide +kernel
theorem dX11_goesOne_287 : decode cX11_goesOne 287 = .ok (.invokevirtual 161, 3) := by decide +kernel
theorem dX11_goesOne_290 : decode cX11_goesOne 290 = .ok (.pop, 1) := by decide +kernel
theorem dX11_goesOne_291 : decode cX11_goesOne 291 = .ok (.iinc 5 1, 3) := by decide +kernel
theorem dX11_goesOne_294 : decode cX11_goesOne 294 = .ok (.goto (-33), 3) := by decide +kernel
theorem dX11_goesOne_297 : decode cX11_goesOne 297 = .ok (.iload 4, 2) := by decide +kernel
theorem dX11_goesOne_299 : decode cX11_goesOne 299 = .ok (.ireturn, 1) := by decide +kernel
set_option maxRecDepth 20000 in
theorem ggX11_startMany_X11_cells : GoodIn wsX11_startMany wsX11_cells := goodIn_r _ [6, 7, 8, 9, 10, 11, 12, 13, 14, 15, 16, 17, 18, 19, 20, 21, 22, 23, 24, 25, 26, 27, 28, 29, 30, 31, 32, 33, 34, 35, 36, 37, 38, 39] (by decide +kernel) (by decide +kernel)
set_option maxRecDepth 20000 in
theorem gX11_startMany_X11_cells : GoodIn wsX11_startMany (wsV RX11 216 RX11 yX11_cells wsX11_cells) := goodIn_app (goodIn_of _ (by decide +kernel)) ggX11_startMany_X11_cells
theorem dX11_startMany_0 : decode cX11_startMany 0 = .ok (.iconst 0, 1) := by decide +kernel
theorem dX11_startMany_1 : decode cX11_startMany 1 = .ok (.istore_n 1, 1) := by decide +kernel
theorem dX11_startMany_2 : decode cX11_startMany 2 = .ok (.iconst 0, 1) := by decide +kernel
theorem dX11_startMany_3 : decode cX11_startMany 3 = .ok (.istore_n 2, 1) := by decide +kernel
theorem dX11_startMany_4 : decode cX11_startMany 4 = .ok (.iload_n 2, 1) := by decide +kernel
theorem dX11_startMany_5 : decode cX11_startMany 5 = .ok (.aload_n 0, 1) := by decide +kernel
theorem dX11_startMany_6 : decode cX11_startMany 6 = .ok (.invokevirtual 216, 3) := by decide +kernel
theorem dX11_startMany_9 : decode cX11_startMany 9 = .ok (.if_icmp .ge 27, 3) := by decide +kernel
theorem dX11_startMany_12 : decode cX11_startMany 12 = .ok (.iload_n 1, 1) := by decide +kernel
theorem dX11_startMany_13 : decode cX11_startMany 13 = .ok (.aload_n 0, 1) := by decide +kernel
theorem dX11_startMany_14 : decode cX11_startMany 14 = .ok (.getfield 16, 3) := by decide +kernel
theorem dX11_startMany_17 : decode cX11_startMany 17 = .ok (.iload_n 2, 1) := by decide +kernel
theorem dX11_startMany_18 : decode cX11_startMany 18 = .ok (.iaload, 1) := by decide +kernel
theorem dX11_startMany_19 : decode cX11_startMany 19 = .ok (.ifCond .ne 8, 3) := by decide +kernel
theorem dX11_startMany_22 : decode cX11_startMany 22 = .ok (.bipush 8, 2) := by decide +kernel
theorem dX11_startMany_24 : decode cX11_startMany 24 = .ok (.goto 4, 3) := by decide +kernel
theorem dX11_startMany_27 : decode cX11_startMany 27 = .ok (.iconst 0, 1) := by decide +kernel
theorem dX11_startMany_28 : decode cX11_startMany 28 = .ok (.iadd, 1) := by decide +kernel
theorem dX11_startMany_29 : decode cX11_startMany 29 = .ok (.istore_n 1, 1) := by decide +kernel
theorem dX11_startMany_30 : decode cX11_startMany 30 = .ok (.iinc 2 1, 3) := by decide +kernel
theorem dX11_startMany_33 : decode cX11_startMany 33 = .ok (.goto (-29), 3) := by decide +kernel
theorem dX11_startMany_36 : decode cX11_startMany 36 = .ok (.iload_n 1, 1) := by decide +kernel
theorem dX11_startMany_37 : decode cX11_startMany 37 = .ok (.ireturn, 1) := by decide +kernel
set_option maxRecDepth 20000 in
theorem ggX11_starts_X11_in : GoodIn wsX11_starts wsX11_in := goodIn_r _ [9] (by decide +kernel) (by decide +kernel)
set_option maxRecDepth 20000 in
theorem gX11_starts_X11_in : GoodIn wsX11_starts (va_wsS RX11 60 yX11_in wsX11_in) := goodIn_app (goodIn_of _ (by decide +kernel)) ggX11_starts_X11_in
set_option maxRecDepth 20000 in
theorem ggX11_starts_X11_startMany : GoodIn wsX11_starts wsX11_startMany := goodIn_r _ [13, 14, 15, 16, 17, 8, 18, 19, 92, 93, 94, 95, 96, 97, 98, 99, 100, 101, 102, 103, 104, 105, 106, 107, 108, 109, 110, 111, 112, 113, 114, 115, 116, 117, 118, 119, 120, 121, 122, 123] (by decide +kernel) (by decide +kernel)
set_option maxRecDepth 20000 in
theorem gX11_starts_X11_startMany : GoodIn wsX11_starts (wsV RX11 226 RX11 yX11_startMany wsX11_startMany) := goodIn_app (goodIn_of _ (by decide +kernel)) ggX11_starts_X11_startMany
set_option maxRecDepth 20000 in
theorem ggX11_starts_X11_goesAll : GoodIn wsX11_starts wsX11_goesAll := goodIn_r _ [23, 24, 2, 3, 4, 5, 25, 26, 27, 28, 8, 29, 30, 15, 16, 17, 18, 19, 31, 32, 33, 34, 35, 36, 37, 38, 39, 14, 6, 7, 9, 40, 41, 42, 43, 44, 45, 46, 47, 48, 49, 50, 51, 52, 53, 54, 55, 56, 57, 58, 59, 60, 61, 62, 63, 64, 65, 66, 67, 68, 69, 70, 71, 72, 73, 74, 75, 76, 77, 78, 79, 80, 81, 82, 83, 84, 85, 86, 87, 88, 89, 90, 91, 92, 93, 94, 95, 96, 97, 98, 99, 100, 101, 102, 103, 104, 105, 106, 107, 108, 109, 110, 111, 112, 113, 114, 115, 116, 117, 118, 119, 120, 121, 122, 123] (by decide +kernel) (by decide +kernel)
set_option maxRecDepth 20000 in
theorem gX11_starts_X11_goesAll : GoodIn wsX11_starts (wsV RX11 229 RX11 yX11_goesAll wsX11_goesAll) := goodIn_app (goodIn_of _ (by decide +kernel)) ggX11_starts_X11_goesAll
theorem dX11_starts_0 : decode cX11_starts 0 = .ok (.aload_n 0, 1) := by decide +kernel
theorem dX11_starts_1 : decode cX11_starts 1 = .ok (.iconst 0, 1) := by decide +kernel
theorem dX11_starts_2 : decode cX11_starts 2 = .ok (.putfield 56, 3) := by decide +kernel
theorem dX11_starts_5 : decode cX11_starts 5 = .ok (.iload_n 1, 1) := by decide +kernel
theorem dX11_starts_6 : decode cX11_starts 6 = .ok (.iconst 0, 1) := by decide +kernel
theorem dX11_starts_7 : decode cX11_starts 7 = .ok (.iconst 4, 1) := by decide +kernel
theorem dX11_starts_8 : decode cX11_starts 8 = .ok (.invokestatic 60, 3) := by decide +kernel
theorem dX11_starts_11 : decode cX11_starts 11 = .ok (.ifCond .ne 5, 3) := by decide +kernel
theorem dX11_starts_14 : decode cX11_starts 14 = .ok (.iconst (-1), 1) := by decide +kernel
theorem dX11_starts_15 : decode cX11_starts 15 = .ok (.ireturn, 1) := by decide +kernel
theorem dX11_starts_16 : decode cX11_starts 16 = .ok (.iload_n 1, 1) := by decide +kernel
theorem dX11_starts_17 : decode cX11_starts 17 = .ok (.ifCond .ne 8, 3) := by decide +kernel
theorem dX11_starts_20 : decode cX11_starts 20 = .ok (.aload_n 0, 1) := by decide +kernel
theorem dX11_starts_21 : decode cX11_starts 21 = .ok (.invokevirtual 226, 3) := by decide +kernel
theorem dX11_starts_24 : decode cX11_starts 24 = .ok (.ireturn, 1) := by decide +kernel
theorem dX11_starts_25 : decode cX11_starts 25 = .ok (.aload_n 0, 1) := by decide +kernel
theorem dX11_starts_26 : decode cX11_starts 26 = .ok (.invokevirtual 229, 3) := by decide +kernel
theorem dX11_starts_29 : decode cX11_starts 29 = .ok (.iload_n 1, 1) := by decide +kernel
theorem dX11_starts_30 : decode cX11_starts 30 = .ok (.iconst 1, 1) := by decide +kernel
theorem dX11_starts_31 : decode cX11_starts 31 = .ok (.if_icmp .ne 10, 3) := by decide +kernel
theorem dX11_starts_34 : decode cX11_starts 34 = .ok (.aload_n 0, 1) := by decide +kernel
theorem dX11_starts_35 : decode cX11_starts 35 = .ok (.getfield 204, 3) := by decide +kernel
theorem dX11_starts_38 : decode cX11_starts 38 = .ok (.goto 31, 3) := by decide +kernel
theorem dX11_starts_41 : decode cX11_starts 41 = .ok (.iload_n 1, 1) := by decide +kernel
theorem dX11_starts_42 : decode cX11_starts 42 = .ok (.iconst 2, 1) := by decide +kernel
theorem dX11_starts_43 : decode cX11_starts 43 = .ok (.if_icmp .ne 10, 3) := by decide +kernel
theorem dX11_starts_46 : decode cX11_starts 46 = .ok (.aload_n 0, 1) := by decide +kernel
theorem dX11_starts_47 : decode cX11_starts 47 = .ok (.getfield 207, 3) := by decide +kernel
theorem dX11_starts_50 : decode cX11_starts 50 = .ok (.goto 19, 3) := by decide +kernel
theorem dX11_starts_53 : decode cX11_starts 53 = .ok (.iload_n 1, 1) := by decide +kernel
theorem dX11_starts_54 : decode cX11_starts 54 = .ok (.iconst 3, 1) := by decide +kernel
theorem dX11_starts_55 : decode cX11_starts 55 = .ok (.if_icmp .ne 10, 3) := by decide +kernel
theorem dX11_starts_58 : decode cX11_starts 58 = .ok (.aload_n 0, 1) := by decide +kernel
theorem dX11_starts_59 : decode cX11_starts 59 = .ok (.getfield 210, 3) := by decide +kernel
theorem dX11_starts_62 : decode cX11_starts 62 = .ok (.goto 7, 3) := by decide +kernel
theorem dX11_starts_65 : decode cX11_starts 65 = .ok (.aload_n 0, 1) := by decide +kernel
theorem dX11_starts_66 : decode cX11_starts 66 = .ok (.getfield 213, 3) := by decide +kernel
theorem dX11_starts_69 : decode cX11_starts 69 = .ok (.ireturn, 1) := by decide +kernel
set_option maxRecDepth 20000 in
theorem ggX11_ringsBy_X11_cellOf : GoodIn wsX11_ringsBy wsX11_cellOf := goodIn_r _ [7, 2, 46, 47, 48, 49, 50, 51, 52, 53, 54, 55, 56, 57, 58, 59, 60, 61, 62, 63, 64, 65, 66, 67, 68, 69, 70, 71, 72, 73, 74, 75, 76, 77] (by decide +kernel) (by decide +kernel)
set_option maxRecDepth 20000 in
theorem gX11_ringsBy_X11_cellOf : GoodIn wsX11_ringsBy (wsV RX11 174 RX11 yX11_cellOf wsX11_cellOf) := goodIn_app (goodIn_of _ (by decide +kernel)) ggX11_ringsBy_X11_cellOf
set_option maxRecDepth 20000 in
theorem ggX11_ringsBy_X11_steps : GoodIn wsX11_ringsBy wsX11_steps := goodIn_r _ [11, 12, 2, 13, 14, 15, 6, 16, 17, 18, 19, 20, 21, 22, 23, 24, 25, 26, 27, 28, 29, 30, 31, 32, 33, 34, 35, 36, 37, 38, 39, 40, 41, 42, 43, 44, 45, 46, 47, 48, 49, 50, 51, 52, 53, 54, 55, 56, 57, 58, 59, 60, 61, 62, 63, 64, 65, 66, 67, 68, 69, 70, 71, 72, 73, 74, 75, 76, 77] (by decide +kernel) (by decide +kernel)
set_option maxRecDepth 20000 in
theorem gX11_ringsBy_X11_steps : GoodIn wsX11_ringsBy (wsV RX11 161 RX11 yX11_steps wsX11_steps) := goodIn_app (goodIn_of _ (by decide +kernel)) ggX11_ringsBy_X11_steps
theorem dX11_ringsBy_0 : decode cX11_ringsBy 0 = .ok (.aload_n 0, 1) := by decide +kernel
theorem dX11_ringsBy_1 : decode cX11_ringsBy 1 = .ok (.aload_n 0, 1) := by decide +kernel
theorem dX11_ringsBy_2 : decode cX11_ringsBy 2 = .ok (.getfield 29, 3) := by decide +kernel
theorem dX11_ringsBy_5 : decode cX11_ringsBy 5 = .ok (.invokevirtual 174, 3) := by decide +kernel
theorem dX11_ringsBy_8 : decode cX11_ringsBy 8 = .ok (.aload_n 0, 1) := by decide +kernel
theorem dX11_ringsBy_9 : decode cX11_ringsBy 9 = .ok (.getfield 13, 3) := by decide +kernel
theorem dX11_ringsBy_12 : decode cX11_ringsBy 12 = .ok (.bipush 6, 2) := by decide +kernel
theorem dX11_ringsBy_14 : decode cX11_ringsBy 14 = .ok (.iaload, 1) := by decide +kernel
theorem dX11_ringsBy_15 : decode cX11_ringsBy 15 = .ok (.if_icmp .ne 7, 3) := by decide +kernel
theorem dX11_ringsBy_18 : decode cX11_ringsBy 18 = .ok (.iconst 1, 1) := by decide +kernel
theorem dX11_ringsBy_19 : decode cX11_ringsBy 19 = .ok (.goto 4, 3) := by decide +kernel
theorem dX11_ringsBy_22 : decode cX11_ringsBy 22 = .ok (.iconst 0, 1) := by decide +kernel
theorem dX11_ringsBy_23 : decode cX11_ringsBy 23 = .ok (.istore_n 2, 1) := by decide +kernel
theorem dX11_ringsBy_24 : decode cX11_ringsBy 24 = .ok (.iconst 1, 1) := by decide +kernel
theorem dX11_ringsBy_25 : decode cX11_ringsBy 25 = .ok (.istore_n 3, 1) := by decide +kernel
theorem dX11_ringsBy_26 : decode cX11_ringsBy 26 = .ok (.iconst 0, 1) := by decide +kernel
theorem dX11_ringsBy_27 : decode cX11_ringsBy 27 = .ok (.istore 4, 2) := by decide +kernel
theorem dX11_ringsBy_29 : decode cX11_ringsBy 29 = .ok (.iload 4, 2) := by decide +kernel
theorem dX11_ringsBy_31 : decode cX11_ringsBy 31 = .ok (.iload_n 1, 1) := by decide +kernel
theorem dX11_ringsBy_32 : decode cX11_ringsBy 32 = .ok (.if_icmp .ge 69, 3) := by decide +kernel
theorem dX11_ringsBy_35 : decode cX11_ringsBy 35 = .ok (.iload_n 3, 1) := by decide +kernel
theorem dX11_ringsBy_36 : decode cX11_ringsBy 36 = .ok (.ifCond .eq 65, 3) := by decide +kernel
theorem dX11_ringsBy_39 : decode cX11_ringsBy 39 = .ok (.iload_n 2, 1) := by decide +kernel
theorem dX11_ringsBy_40 : decode cX11_ringsBy 40 = .ok (.ifCond .ne 61, 3) := by decide +kernel
theorem dX11_ringsBy_43 : decode cX11_ringsBy 43 = .ok (.aload_n 0, 1) := by decide +kernel
theorem dX11_ringsBy_44 : decode cX11_ringsBy 44 = .ok (.aload_n 0, 1) := by decide +kernel
theorem dX11_ringsBy_45 : decode cX11_ringsBy 45 = .ok (.getfield 29, 3) := by decide +kernel
theorem dX11_ringsBy_48 : decode cX11_ringsBy 48 = .ok (.invokevirtual 161, 3) := by decide +kernel
theorem dX11_ringsBy_51 : decode cX11_ringsBy 51 = .ok (.istore 5, 2) := by decide +kernel
theorem dX11_ringsBy_53 : decode cX11_ringsBy 53 = .ok (.iload 5, 2) := by decide +kernel
theorem dX11_ringsBy_55 : decode cX11_ringsBy 55 = .ok (.iconst (-1), 1) := by decide +kernel
theorem dX11_ringsBy_56 : decode cX11_ringsBy 56 = .ok (.if_icmp .eq 7, 3) := by decide +kernel
theorem dX11_ringsBy_59 : decode cX11_ringsBy 59 = .ok (.iconst 1, 1) := by decide +kernel
theorem dX11_ringsBy_60 : decode cX11_ringsBy 60 = .ok (.goto 4, 3) := by decide +kernel
theorem dX11_ringsBy_63 : decode cX11_ringsBy 63 = .ok (.iconst 0, 1) := by decide +kernel
theorem dX11_ringsBy_64 : decode cX11_ringsBy 64 = .ok (.istore_n 3, 1) := by decide +kernel
theorem dX11_ringsBy_65 : decode cX11_ringsBy 65 = .ok (.iload 5, 2) := by decide +kernel
theorem dX11_ringsBy_67 : decode cX11_ringsBy 67 = .ok (.iconst 1, 1) := by decide +kernel
theorem dX11_ringsBy_68 : decode cX11_ringsBy 68 = .ok (.if_icmp .ne 25, 3) := by decide +kernel
theorem dX11_ringsBy_71 : decode cX11_ringsBy 71 = .ok (.aload_n 0, 1) := by decide +kernel
theorem dX11_ringsBy_72 : decode cX11_ringsBy 72 = .ok (.aload_n 0, 1) := by decide +kernel
theorem dX11_ringsBy_73 : decode cX11_ringsBy 73 = .ok (.getfield 29, 3) := by decide +kernel
theorem dX11_ringsBy_76 : decode cX11_ringsBy 76 = .ok (.invokevirtual 174, 3) := by decide +kernel
theorem dX11_ringsBy_79 : decode cX11_ringsBy 79 = .ok (.aload_n 0, 1) := by decide +kernel
theorem dX11_ringsBy_80 : decode cX11_ringsBy 80 = .ok (.getfield 13, 3) := by decide +kernel
theorem dX11_ringsBy_83 : decode cX11_ringsBy 83 = .ok (.bipush 6, 2) := by decide +kernel
theorem dX11_ringsBy_85 : decode cX11_ringsBy 85 = .ok (.iaload, 1) := by decide +kernel
theorem dX11_ringsBy_86 : decode cX11_ringsBy 86 = .ok (.if_icmp .ne 7, 3) := by decide +kernel
theorem dX11_ringsBy_89 : decode cX11_ringsBy 89 = .ok (.iconst 1, 1) := by decide +kernel
theorem dX11_ringsBy_90 : decode cX11_ringsBy 90 = .ok (.goto 4, 3) := by decide +kernel
theorem dX11_ringsBy_93 : decode cX11_ringsBy 93 = .ok (.iconst 0, 1) := by decide +kernel
theorem dX11_ringsBy_94 : decode cX11_ringsBy 94 = .ok (.istore_n 2, 1) := by decide +kernel
theorem dX11_ringsBy_95 : decode cX11_ringsBy 95 = .ok (.iinc 4 1, 3) := by decide +kernel
theorem dX11_ringsBy_98 : decode cX11_ringsBy 98 = .ok (.goto (-69), 3) := by decide +kernel
theorem dX11_ringsBy_101 : decode cX11_ringsBy 101 = .ok (.iload_n 2, 1) := by decide +kernel
theorem dX11_ringsBy_102 : decode cX11_ringsBy 102 = .ok (.ireturn, 1) := by decide +kernel
set_option maxRecDepth 20000 in
theorem ggX11_rings_X11_in : GoodIn wsX11_rings wsX11_in := goodIn_r _ [7] (by decide +kernel) (by decide +kernel)
set_option maxRecDepth 20000 in
theorem gX11_rings_X11_in : GoodIn wsX11_rings (va_wsS RX11 60 yX11_in wsX11_in) := goodIn_app (goodIn_of _ (by decide +kernel)) ggX11_rings_X11_in
set_option maxRecDepth 20000 in
theorem ggX11_rings_X11_cells : GoodIn wsX11_rings wsX11_cells := goodIn_r _ [11, 3, 59, 60, 61, 62, 63, 64, 65, 66, 67, 68, 69, 70, 71, 72, 73, 74, 75, 76, 77, 78, 79, 80, 81, 82, 83, 84, 85, 86, 87, 88, 89, 90] (by decide +kernel) (by decide +kernel)
set_option maxRecDepth 20000 in
theorem gX11_rings_X11_cells : GoodIn wsX11_rings (wsV RX11 216 RX11 yX11_cells wsX11_cells) := goodIn_app (goodIn_of _ (by decide +kernel)) ggX11_rings_X11_cells
set_option maxRecDepth 20000 in
theorem ggX11_rings_X11_isStartOf : GoodIn wsX11_rings wsX11_isStartOf := goodIn_r _ [15, 16, 3, 17, 18, 19, 6, 20, 21, 4, 5, 7, 59, 60, 61, 62, 63, 64, 65, 66, 67, 68, 69, 70, 71, 72, 73, 74, 75, 76, 77, 78, 79, 80, 81, 82, 83, 84, 85, 86, 87, 88, 89, 90] (by decide +kernel) (by decide +kernel)
set_option maxRecDepth 20000 in
theorem gX11_rings_X11_isStartOf : GoodIn wsX11_rings (wsV RX11 219 RX11 yX11_isStartOf wsX11_isStartOf) := goodIn_app (goodIn_of _ (by decide +kernel)) ggX11_rings_X11_isStartOf
set_option maxRecDepth 20000 in
theorem ggX11_rings_X11_ringsBy : GoodIn wsX11_rings wsX11_ringsBy := goodIn_r _ [25, 16, 3, 26, 27, 28, 6, 29, 30, 31, 32, 33, 2, 34, 35, 36, 37, 38, 39, 40, 41, 42, 43, 17, 18, 19, 20, 21, 4, 5, 7, 44, 45, 46, 47, 48, 49, 50, 51, 52, 53, 54, 55, 56, 57, 58, 59, 60, 61, 62, 63, 64, 65, 66, 67, 68, 69, 70, 71, 72, 73, 74, 75, 76, 77, 78, 79, 80, 81, 82, 83, 84, 85, 86, 87, 88, 89, 90] (by decide +kernel) (by decide +kernel)
set_option maxRecDepth 20000 in
theorem gX11_rings_X11_ringsBy : GoodIn wsX11_rings (wsV RX11 232 RX11 yX11_ringsBy wsX11_ringsBy) := goodIn_app (goodIn_of _ (by decide +kernel)) ggX11_rings_X11_ringsBy
theorem dX11_rings_0 : decode cX11_rings 0 = .ok (.aload_n 0, 1) := by decide +kernel
theorem dX11_rings_1 : decode cX11_rings 1 = .ok (.iconst 0, 1) := by decide +kernel
theorem dX11_rings_2 : decode cX11_rings 2 = .ok (.putfield 56, 3) := by decide +kernel
theorem dX11_rings_5 : decode cX11_rings 5 = .ok (.iload_n 1, 1) := by decide +kernel
theorem dX11_rings_6 : decode cX11_rings 6 = .ok (.iconst 0, 1) := by decide +kernel
theorem dX11_rings_7 : decode cX11_rings 7 = .ok (.sipush 999, 3) := by decide +kernel
theorem dX11_rings_10 : decode cX11_rings 10 = .ok (.invokestatic 60, 3) := by decide +kernel
theorem dX11_rings_13 : decode cX11_rings 13 = .ok (.ifCond .ne 5, 3) := by decide +kernel
theorem dX11_rings_16 : decode cX11_rings 16 = .ok (.iconst (-1), 1) := by decide +kernel
theorem dX11_rings_17 : decode cX11_rings 17 = .ok (.ireturn, 1) := by decide +kernel
theorem dX11_rings_18 : decode cX11_rings 18 = .ok (.aload_n 0, 1) := by decide +kernel
theorem dX11_rings_19 : decode cX11_rings 19 = .ok (.iconst 0, 1) := by decide +kernel
theorem dX11_rings_20 : decode cX11_rings 20 = .ok (.putfield 154, 3) := by decide +kernel
theorem dX11_rings_23 : decode cX11_rings 23 = .ok (.iconst 0, 1) := by decide +kernel
theorem dX11_rings_24 : decode cX11_rings 24 = .ok (.istore_n 2, 1) := by decide +kernel
theorem dX11_rings_25 : decode cX11_rings 25 = .ok (.iconst 0, 1) := by decide +kernel
theorem dX11_rings_26 : decode cX11_rings 26 = .ok (.istore_n 3, 1) := by decide +kernel
theorem dX11_rings_27 : decode cX11_rings 27 = .ok (.iload_n 3, 1) := by decide +kernel
theorem dX11_rings_28 : decode cX11_rings 28 = .ok (.bipush 8, 2) := by decide +kernel
theorem dX11_rings_30 : decode cX11_rings 30 = .ok (.aload_n 0, 1) := by decide +kernel
theorem dX11_rings_31 : decode cX11_rings 31 = .ok (.invokevirtual 216, 3) := by decide +kernel
theorem dX11_rings_34 : decode cX11_rings 34 = .ok (.imul, 1) := by decide +kernel
theorem dX11_rings_35 : decode cX11_rings 35 = .ok (.if_icmp .ge 45, 3) := by decide +kernel
theorem dX11_rings_38 : decode cX11_rings 38 = .ok (.aload_n 0, 1) := by decide +kernel
theorem dX11_rings_39 : decode cX11_rings 39 = .ok (.getfield 13, 3) := by decide +kernel
theorem dX11_rings_42 : decode cX11_rings 42 = .ok (.bipush 6, 2) := by decide +kernel
theorem dX11_rings_44 : decode cX11_rings 44 = .ok (.iaload, 1) := by decide +kernel
theorem dX11_rings_45 : decode cX11_rings 45 = .ok (.bipush (-9), 2) := by decide +kernel
theorem dX11_rings_47 : decode cX11_rings 47 = .ok (.if_icmp .eq 33, 3) := by decide +kernel
theorem dX11_rings_50 : decode cX11_rings 50 = .ok (.iload_n 2, 1) := by decide +kernel
theorem dX11_rings_51 : decode cX11_rings 51 = .ok (.aload_n 0, 1) := by decide +kernel
theorem dX11_rings_52 : decode cX11_rings 52 = .ok (.iload_n 3, 1) := by decide +kernel
theorem dX11_rings_53 : decode cX11_rings 53 = .ok (.invokevirtual 219, 3) := by decide +kernel
theorem dX11_rings_56 : decode cX11_rings 56 = .ok (.ifCond .eq 15, 3) := by decide +kernel
theorem dX11_rings_59 : decode cX11_rings 59 = .ok (.aload_n 0, 1) := by decide +kernel
theorem dX11_rings_60 : decode cX11_rings 60 = .ok (.iload_n 1, 1) := by decide +kernel
theorem dX11_rings_61 : decode cX11_rings 61 = .ok (.invokevirtual 232, 3) := by decide +kernel
theorem dX11_rings_64 : decode cX11_rings 64 = .ok (.ifCond .eq 7, 3) := by decide +kernel
theorem dX11_rings_67 : decode cX11_rings 67 = .ok (.iconst 1, 1) := by decide +kernel
theorem dX11_rings_68 : decode cX11_rings 68 = .ok (.goto 4, 3) := by decide +kernel
theorem dX11_rings_71 : decode cX11_rings 71 = .ok (.iconst 0, 1) := by decide +kernel
theorem dX11_rings_72 : decode cX11_rings 72 = .ok (.iadd, 1) := by decide +kernel
theorem dX11_rings_73 : decode cX11_rings 73 = .ok (.istore_n 2, 1) := by decide +kernel
theorem dX11_rings_74 : decode cX11_rings 74 = .ok (.iinc 3 1, 3) := by decide +kernel
theorem dX11_rings_77 : decode cX11_rings 77 = .ok (.goto (-50), 3) := by decide +kernel
theorem dX11_rings_80 : decode cX11_rings 80 = .ok (.iload_n 2, 1) := by decide +kernel
theorem dX11_rings_81 : decode cX11_rings 81 = .ok (.ireturn, 1) := by decide +kernel
set_option maxRecDepth 20000 in
theorem ggX11_common_X11_goesAll : GoodIn wsX11_common wsX11_goesAll := goodIn_r _ [8, 9, 10, 11, 2, 12, 3, 13, 14, 15, 7, 16, 17, 18, 19, 20, 21, 22, 23, 24, 25, 26, 27, 28, 29, 30, 31, 32, 33, 34, 35, 36, 37, 38, 39, 40, 41, 42, 43, 44, 45, 46, 47, 48, 49, 50, 51, 52, 53, 54, 55, 56, 57, 58, 59, 60, 61, 62, 63, 64, 65, 66, 67, 68, 69, 70, 71, 72, 73, 74, 75, 76, 77, 78, 79, 80, 81, 82, 83, 84, 85, 86, 87, 88, 89, 90, 91, 92, 93, 94, 95, 96, 97, 98, 99, 100, 101, 102, 103, 104, 105, 106, 107, 108, 109, 110, 111, 112, 113, 114, 115, 116, 117, 118, 119] (by decide +kernel) (by decide +kernel)
set_option maxRecDepth 20000 in
theorem gX11_common_X11_goesAll : GoodIn wsX11_common (wsV RX11 229 RX11 yX11_goesAll wsX11_goesAll) := goodIn_app (goodIn_of _ (by decide +kernel)) ggX11_common_X11_goesAll
set_option maxRecDepth 20000 in
theorem ggX11_common_X11_cells : GoodIn wsX11_common wsX11_cells := goodIn_r _ [21, 22, 88, 89, 90, 91, 92, 93, 94, 95, 96, 97, 98, 99, 100, 101, 102, 103, 104, 105, 106, 107, 108, 109, 110, 111, 112, 113, 114, 115, 116, 117, 118, 119] (by decide +kernel) (by decide +kernel)
set_option maxRecDepth 20000 in
theorem gX11_common_X11_cells : GoodIn wsX11_common (wsV RX11 216 RX11 yX11_cells wsX11_cells) := goodIn_app (goodIn_of _ (by decide +kernel)) ggX11_common_X11_cells
theorem dX11_common_0 : decode cX11_common 0 = .ok (.aload_n 0, 1) := by decide +kernel
theorem dX11_common_1 : decode cX11_common 1 = .ok (.iconst 0, 1) := by decide +kernel
theorem dX11_common_2 : decode cX11_common 2 = .ok (.putfield 56, 3) := by decide +kernel
theorem dX11_common_5 : decode cX11_common 5 = .ok (.aload_n 0, 1) := by decide +kernel
theorem dX11_common_6 : decode cX11_common 6 = .ok (.invokevirtual 229, 3) := by decide +kernel
theorem dX11_common_9 : decode cX11_common 9 = .ok (.iconst 0, 1) := by decide +kernel
theorem dX11_common_10 : decode cX11_common 10 = .ok (.istore_n 1, 1) := by decide +kernel
theorem dX11_common_11 : decode cX11_common 11 = .ok (.iload_n 1, 1) := by decide +kernel
theorem dX11_common_12 : decode cX11_common 12 = .ok (.aload_n 0, 1) := by decide +kernel
theorem dX11_common_13 : decode cX11_common 13 = .ok (.invokevirtual 216, 3) := by decide +kernel
theorem dX11_common_16 : decode cX11_common 16 = .ok (.if_icmp .ge 31, 3) := by decide +kernel
theorem dX11_common_19 : decode cX11_common 19 = .ok (.aload_n 0, 1) := by decide +kernel
theorem dX11_common_20 : decode cX11_common 20 = .ok (.getfield 210, 3) := by decide +kernel
theorem dX11_common_23 : decode cX11_common 23 = .ok (.ifCond .le 18, 3) := by decide +kernel
theorem dX11_common_26 : decode cX11_common 26 = .ok (.aload_n 0, 1) := by decide +kernel
theorem dX11_common_27 : decode cX11_common 27 = .ok (.getfield 41, 3) := by decide +kernel
theorem dX11_common_30 : decode cX11_common 30 = .ok (.iload_n 1, 1) := by decide +kernel
theorem dX11_common_31 : decode cX11_common 31 = .ok (.iaload, 1) := by decide +kernel
theorem dX11_common_32 : decode cX11_common 32 = .ok (.aload_n 0, 1) := by decide +kernel
theorem dX11_common_33 : decode cX11_common 33 = .ok (.getfield 210, 3) := by decide +kernel
theorem dX11_common_36 : decode cX11_common 36 = .ok (.if_icmp .ne 5, 3) := by decide +kernel
theorem dX11_common_39 : decode cX11_common 39 = .ok (.iload_n 1, 1) := by decide +kernel
theorem dX11_common_40 : decode cX11_common 40 = .ok (.ireturn, 1) := by decide +kernel
theorem dX11_common_41 : decode cX11_common 41 = .ok (.iinc 1 1, 3) := by decide +kernel
theorem dX11_common_44 : decode cX11_common 44 = .ok (.goto (-33), 3) := by decide +kernel
theorem dX11_common_47 : decode cX11_common 47 = .ok (.bipush (-9), 2) := by decide +kernel
theorem dX11_common_49 : decode cX11_common 49 = .ok (.ireturn, 1) := by decide +kernel
set_option maxRecDepth 20000 in
theorem ggX11_safe_X11_goesAll : GoodIn wsX11_safe wsX11_goesAll := goodIn_r _ [8, 9, 3, 10, 11, 12, 13, 14, 15, 16, 7, 17, 18, 19, 20, 21, 22, 2, 23, 24, 25, 26, 27, 28, 29, 30, 31, 32, 33, 34, 35, 36, 37, 38, 39, 40, 41, 42, 43, 44, 45, 46, 47, 48, 49, 50, 51, 52, 53, 54, 55, 56, 57, 58, 59, 60, 61, 62, 63, 64, 65, 66, 67, 68, 69, 70, 71, 72, 73, 74, 75, 76, 77, 78, 79, 80, 81, 82, 83, 84, 85, 86, 87, 88, 89, 90, 91, 92, 93, 94, 95, 96, 97, 98, 99, 100, 101, 102, 103, 104, 105, 106, 107, 108, 109, 110, 111, 112, 113, 114, 115, 116, 117, 118, 119] (by decide +kernel) (by decide +kernel)
set_option maxRecDepth 20000 in
theorem gX11_safe_X11_goesAll : GoodIn wsX11_safe (wsV RX11 229 RX11 yX11_goesAll wsX11_goesAll) := goodIn_app (goodIn_of _ (by decide +kernel)) ggX11_safe_X11_goesAll
theorem dX11_safe_0 : decode cX11_safe 0 = .ok (.aload_n 0, 1) := by decide +kernel
theorem dX11_safe_1 : decode cX11_safe 1 = .ok (.iconst 0, 1) := by decide +kernel
theorem dX11_safe_2 : decode cX11_safe 2 = .ok (.putfield 56, 3) := by decide +kernel
theorem dX11_safe_5 : decode cX11_safe 5 = .ok (.aload_n 0, 1) := by decide +kernel
theorem dX11_safe_6 : decode cX11_safe 6 = .ok (.getfield 13, 3) := by decide +kernel
theorem dX11_safe_9 : decode cX11_safe 9 = .ok (.iconst 2, 1) := by decide +kernel
theorem dX11_safe_10 : decode cX11_safe 10 = .ok (.iaload, 1) := by decide +kernel
theorem dX11_safe_11 : decode cX11_safe 11 = .ok (.istore_n 1, 1) := by decide +kernel
theorem dX11_safe_12 : decode cX11_safe 12 = .ok (.iconst 0, 1) := by decide +kernel
theorem dX11_safe_13 : decode cX11_safe 13 = .ok (.istore_n 2, 1) := by decide +kernel
theorem dX11_safe_14 : decode cX11_safe 14 = .ok (.iconst 1, 1) := by decide +kernel
theorem dX11_safe_15 : decode cX11_safe 15 = .ok (.istore_n 3, 1) := by decide +kernel
theorem dX11_safe_16 : decode cX11_safe 16 = .ok (.iload_n 3, 1) := by decide +kernel
theorem dX11_safe_17 : decode cX11_safe 17 = .ok (.iconst 4, 1) := by decide +kernel
theorem dX11_safe_18 : decode cX11_safe 18 = .ok (.if_icmp .ge 39, 3) := by decide +kernel
theorem dX11_safe_21 : decode cX11_safe 21 = .ok (.aload_n 0, 1) := by decide +kernel
theorem dX11_safe_22 : decode cX11_safe 22 = .ok (.getfield 13, 3) := by decide +kernel
theorem dX11_safe_25 : decode cX11_safe 25 = .ok (.iconst 2, 1) := by decide +kernel
theorem dX11_safe_26 : decode cX11_safe 26 = .ok (.iload_n 3, 1) := by decide +kernel
theorem dX11_safe_27 : decode cX11_safe 27 = .ok (.iastore, 1) := by decide +kernel
theorem dX11_safe_28 : decode cX11_safe 28 = .ok (.aload_n 0, 1) := by decide +kernel
theorem dX11_safe_29 : decode cX11_safe 29 = .ok (.invokevirtual 229, 3) := by decide +kernel
theorem dX11_safe_32 : decode cX11_safe 32 = .ok (.iload_n 2, 1) := by decide +kernel
theorem dX11_safe_33 : decode cX11_safe 33 = .ok (.aload_n 0, 1) := by decide +kernel
theorem dX11_safe_34 : decode cX11_safe 34 = .ok (.getfield 204, 3) := by decide +kernel
theorem dX11_safe_37 : decode cX11_safe 37 = .ok (.ifCond .ne 11, 3) := by decide +kernel
theorem dX11_safe_40 : decode cX11_safe 40 = .ok (.iconst 1, 1) := by decide +kernel
theorem dX11_safe_41 : decode cX11_safe 41 = .ok (.iload_n 3, 1) := by decide +kernel
theorem dX11_safe_42 : decode cX11_safe 42 = .ok (.iconst 1, 1) := by decide +kernel
theorem dX11_safe_43 : decode cX11_safe 43 = .ok (.isub, 1) := by decide +kernel
theorem dX11_safe_44 : decode cX11_safe 44 = .ok (.ishl, 1) := by decide +kernel
theorem dX11_safe_45 : decode cX11_safe 45 = .ok (.goto 4, 3) := by decide +kernel
theorem dX11_safe_48 : decode cX11_safe 48 = .ok (.iconst 0, 1) := by decide +kernel
theorem dX11_safe_49 : decode cX11_safe 49 = .ok (.ior, 1) := by decide +kernel
theorem dX11_safe_50 : decode cX11_safe 50 = .ok (.istore_n 2, 1) := by decide +kernel
theorem dX11_safe_51 : decode cX11_safe 51 = .ok (.iinc 3 1, 3) := by decide +kernel
theorem dX11_safe_54 : decode cX11_safe 54 = .ok (.goto (-38), 3) := by decide +kernel
theorem dX11_safe_57 : decode cX11_safe 57 = .ok (.aload_n 0, 1) := by decide +kernel
theorem dX11_safe_58 : decode cX11_safe 58 = .ok (.getfield 13, 3) := by decide +kernel
theorem dX11_safe_61 : decode cX11_safe 61 = .ok (.iconst 2, 1) := by decide +kernel
theorem dX11_safe_62 : decode cX11_safe 62 = .ok (.iload_n 1, 1) := by decide +kernel
theorem dX11_safe_63 : decode cX11_safe 63 = .ok (.iastore, 1) := by decide +kernel
theorem dX11_safe_64 : decode cX11_safe 64 = .ok (.iload_n 2, 1) := by decide +kernel
theorem dX11_safe_65 : decode cX11_safe 65 = .ok (.ireturn, 1) := by decide +kernel
set_option maxRecDepth 20000 in
theorem ggX11_coversBy_X11_bares : GoodIn wsX11_coversBy wsX11_bares := goodIn_r _ [7, 1, 51, 52, 53, 54, 55, 56, 57, 58, 59, 60, 61, 62, 63, 64, 65, 66, 67, 68, 69, 70, 71, 72, 73, 74, 75, 76, 77, 78, 79, 80, 81, 82] (by decide +kernel) (by decide +kernel)
set_option maxRecDepth 20000 in
theorem gX11_coversBy_X11_bares : GoodIn wsX11_coversBy (wsV RX11 177 RX11 yX11_bares wsX11_bares) := goodIn_app (goodIn_of _ (by decide +kernel)) ggX11_coversBy_X11_bares
set_option maxRecDepth 20000 in
theorem ggX11_coversBy_X11_cellOf : GoodIn wsX11_coversBy wsX11_cellOf := goodIn_r _ [11, 12, 51, 52, 53, 54, 55, 56, 57, 58, 59, 60, 61, 62, 63, 64, 65, 66, 67, 68, 69, 70, 71, 72, 73, 74, 75, 76, 77, 78, 79, 80, 81, 82] (by decide +kernel) (by decide +kernel)
set_option maxRecDepth 20000 in
theorem gX11_coversBy_X11_cellOf : GoodIn wsX11_coversBy (wsV RX11 174 RX11 yX11_cellOf wsX11_cellOf) := goodIn_app (goodIn_of _ (by decide +kernel)) ggX11_coversBy_X11_cellOf
set_option maxRecDepth 20000 in
theorem ggX11_coversBy_X11_steps : GoodIn wsX11_coversBy wsX11_steps := goodIn_r _ [16, 17, 12, 18, 19, 20, 6, 21, 22, 23, 24, 25, 26, 27, 28, 29, 30, 31, 32, 33, 34, 35, 36, 37, 38, 39, 40, 41, 42, 43, 44, 45, 46, 47, 48, 49, 50, 51, 52, 53, 54, 55, 56, 57, 58, 59, 60, 61, 62, 63, 64, 65, 66, 67, 68, 69, 70, 71, 72, 73, 74, 75, 76, 77, 78, 79, 80, 81, 82] (by decide +kernel) (by decide +kernel)
set_option maxRecDepth 20000 in
theorem gX11_coversBy_X11_steps : GoodIn wsX11_coversBy (wsV RX11 161 RX11 yX11_steps wsX11_steps) := goodIn_app (goodIn_of _ (by decide +kernel)) ggX11_coversBy_X11_steps
theorem dX11_coversBy_0 : decode cX11_coversBy 0 = .ok (.aload_n 0, 1) := by decide +kernel
theorem dX11_coversBy_1 : decode cX11_coversBy 1 = .ok (.invokevirtual 177, 3) := by decide +kernel
theorem dX11_coversBy_4 : decode cX11_coversBy 4 = .ok (.iconst 1, 1) := by decide +kernel
theorem dX11_coversBy_5 : decode cX11_coversBy 5 = .ok (.istore_n 2, 1) := by decide +kernel
theorem dX11_coversBy_6 : decode cX11_coversBy 6 = .ok (.aload_n 0, 1) := by decide +kernel
theorem dX11_coversBy_7 : decode cX11_coversBy 7 = .ok (.getfield 38, 3) := by decide +kernel
theorem dX11_coversBy_10 : decode cX11_coversBy 10 = .ok (.aload_n 0, 1) := by decide +kernel
theorem dX11_coversBy_11 : decode cX11_coversBy 11 = .ok (.aload_n 0, 1) := by decide +kernel
theorem dX11_coversBy_12 : decode cX11_coversBy 12 = .ok (.getfield 29, 3) := by decide +kernel
theorem dX11_coversBy_15 : decode cX11_coversBy 15 = .ok (.invokevirtual 174, 3) := by decide +kernel
theorem dX11_coversBy_18 : decode cX11_coversBy 18 = .ok (.iconst 1, 1) := by decide +kernel
theorem dX11_coversBy_19 : decode cX11_coversBy 19 = .ok (.iastore, 1) := by decide +kernel
theorem dX11_coversBy_20 : decode cX11_coversBy 20 = .ok (.iconst 0, 1) := by decide +kernel
theorem dX11_coversBy_21 : decode cX11_coversBy 21 = .ok (.istore_n 3, 1) := by decide +kernel
theorem dX11_coversBy_22 : decode cX11_coversBy 22 = .ok (.iload_n 3, 1) := by decide +kernel
theorem dX11_coversBy_23 : decode cX11_coversBy 23 = .ok (.iload_n 1, 1) := by decide +kernel
theorem dX11_coversBy_24 : decode cX11_coversBy 24 = .ok (.if_icmp .ge 61, 3) := by decide +kernel
theorem dX11_coversBy_27 : decode cX11_coversBy 27 = .ok (.aload_n 0, 1) := by decide +kernel
theorem dX11_coversBy_28 : decode cX11_coversBy 28 = .ok (.aload_n 0, 1) := by decide +kernel
theorem dX11_coversBy_29 : decode cX11_coversBy 29 = .ok (.getfield 29, 3) := by decide +kernel
theorem dX11_coversBy_32 : decode cX11_coversBy 32 = .ok (.invokevirtual 161, 3) := by decide +kernel
theorem dX11_coversBy_35 : decode cX11_coversBy 35 = .ok (.iconst (-1), 1) := by decide +kernel
theorem dX11_coversBy_36 : decode cX11_coversBy 36 = .ok (.if_icmp .ne 5, 3) := by decide +kernel
theorem dX11_coversBy_39 : decode cX11_coversBy 39 = .ok (.iload_n 2, 1) := by decide +kernel
theorem dX11_coversBy_40 : decode cX11_coversBy 40 = .ok (.ireturn, 1) := by decide +kernel
theorem dX11_coversBy_41 : decode cX11_coversBy 41 = .ok (.iload_n 2, 1) := by decide +kernel
theorem dX11_coversBy_42 : decode cX11_coversBy 42 = .ok (.aload_n 0, 1) := by decide +kernel
theorem dX11_coversBy_43 : decode cX11_coversBy 43 = .ok (.getfield 38, 3) := by decide +kernel
theorem dX11_coversBy_46 : decode cX11_coversBy 46 = .ok (.aload_n 0, 1) := by decide +kernel
theorem dX11_coversBy_47 : decode cX11_coversBy 47 = .ok (.aload_n 0, 1) := by decide +kernel
theorem dX11_coversBy_48 : decode cX11_coversBy 48 = .ok (.getfield 29, 3) := by decide +kernel
theorem dX11_coversBy_51 : decode cX11_coversBy 51 = .ok (.invokevirtual 174, 3) := by decide +kernel
theorem dX11_coversBy_54 : decode cX11_coversBy 54 = .ok (.iaload, 1) := by decide +kernel
theorem dX11_coversBy_55 : decode cX11_coversBy 55 = .ok (.ifCond .ne 7, 3) := by decide +kernel
theorem dX11_coversBy_58 : decode cX11_coversBy 58 = .ok (.iconst 1, 1) := by decide +kernel
theorem dX11_coversBy_59 : decode cX11_coversBy 59 = .ok (.goto 4, 3) := by decide +kernel
theorem dX11_coversBy_62 : decode cX11_coversBy 62 = .ok (.iconst 0, 1) := by decide +kernel
theorem dX11_coversBy_63 : decode cX11_coversBy 63 = .ok (.iadd, 1) := by decide +kernel
theorem dX11_coversBy_64 : decode cX11_coversBy 64 = .ok (.istore_n 2, 1) := by decide +kernel
theorem dX11_coversBy_65 : decode cX11_coversBy 65 = .ok (.aload_n 0, 1) := by decide +kernel
theorem dX11_coversBy_66 : decode cX11_coversBy 66 = .ok (.getfield 38, 3) := by decide +kernel
theorem dX11_coversBy_69 : decode cX11_coversBy 69 = .ok (.aload_n 0, 1) := by decide +kernel
theorem dX11_coversBy_70 : decode cX11_coversBy 70 = .ok (.aload_n 0, 1) := by decide +kernel
theorem dX11_coversBy_71 : decode cX11_coversBy 71 = .ok (.getfield 29, 3) := by decide +kernel
theorem dX11_coversBy_74 : decode cX11_coversBy 74 = .ok (.invokevirtual 174, 3) := by decide +kernel
theorem dX11_coversBy_77 : decode cX11_coversBy 77 = .ok (.iconst 1, 1) := by decide +kernel
theorem dX11_coversBy_78 : decode cX11_coversBy 78 = .ok (.iastore, 1) := by decide +kernel
theorem dX11_coversBy_79 : decode cX11_coversBy 79 = .ok (.iinc 3 1, 3) := by decide +kernel
theorem dX11_coversBy_82 : decode cX11_coversBy 82 = .ok (.goto (-60), 3) := by decide +kernel
theorem dX11_coversBy_85 : decode cX11_coversBy 85 = .ok (.iload_n 2, 1) := by decide +kernel
theorem dX11_coversBy_86 : decode cX11_coversBy 86 = .ok (.ireturn, 1) := by decide +kernel
set_option maxRecDepth 20000 in
theorem ggX11_covers_X11_in : GoodIn wsX11_covers wsX11_in := goodIn_r _ [5] (by decide +kernel) (by decide +kernel)
set_option maxRecDepth 20000 in
theorem gX11_covers_X11_in : GoodIn wsX11_covers (va_wsS RX11 60 yX11_in wsX11_in) := goodIn_app (goodIn_of _ (by decide +kernel)) ggX11_covers_X11_in
set_option maxRecDepth 20000 in
theorem ggX11_covers_X11_state : GoodIn wsX11_covers wsX11_state := goodIn_r _ [9, 10, 11, 12, 13, 4, 14, 15, 16, 17, 18, 19, 20, 2, 3, 5, 64, 65, 66, 67, 68, 69, 70, 71, 72, 73, 74, 75, 76, 77, 78, 79, 80, 81, 82, 83, 84, 85, 86, 87, 88, 89, 90, 91, 92, 93, 94, 95] (by decide +kernel) (by decide +kernel)
set_option maxRecDepth 20000 in
theorem gX11_covers_X11_state : GoodIn wsX11_covers (wsV RX11 165 RX11 yX11_state wsX11_state) := goodIn_app (goodIn_of _ (by decide +kernel)) ggX11_covers_X11_state
set_option maxRecDepth 20000 in
theorem ggX11_covers_X11_fromNow : GoodIn wsX11_covers wsX11_fromNow := goodIn_r _ [24, 25, 26, 10, 64, 65, 66, 67, 68, 69, 70, 71, 72, 73, 74, 75, 76, 77, 78, 79, 80, 81, 82, 83, 84, 85, 86, 87, 88, 89, 90, 91, 92, 93, 94, 95] (by decide +kernel) (by decide +kernel)
set_option maxRecDepth 20000 in
theorem gX11_covers_X11_fromNow : GoodIn wsX11_covers (wsV RX11 189 RX11 yX11_fromNow wsX11_fromNow) := goodIn_app (goodIn_of _ (by decide +kernel)) ggX11_covers_X11_fromNow
set_option maxRecDepth 20000 in
theorem ggX11_covers_X11_coversBy : GoodIn wsX11_covers wsX11_coversBy := goodIn_r _ [30, 31, 26, 32, 33, 34, 4, 35, 36, 37, 38, 39, 19, 40, 41, 42, 43, 25, 44, 45, 46, 47, 48, 49, 50, 51, 52, 53, 15, 16, 17, 18, 20, 2, 3, 5, 54, 55, 56, 57, 11, 12, 13, 14, 58, 59, 60, 61, 10, 62, 63, 64, 65, 66, 67, 68, 69, 70, 71, 72, 73, 74, 75, 76, 77, 78, 79, 80, 81, 82, 83, 84, 85, 86, 87, 88, 89, 90, 91, 92, 93, 94, 95] (by decide +kernel) (by decide +kernel)
set_option maxRecDepth 20000 in
theorem gX11_covers_X11_coversBy : GoodIn wsX11_covers (wsV RX11 235 RX11 yX11_coversBy wsX11_coversBy) := goodIn_app (goodIn_of _ (by decide +kernel)) ggX11_covers_X11_coversBy
theorem dX11_covers_0 : decode cX11_covers 0 = .ok (.aload_n 0, 1) := by decide +kernel
theorem dX11_covers_1 : decode cX11_covers 1 = .ok (.iconst 0, 1) := by decide +kernel
theorem dX11_covers_2 : decode cX11_covers 2 = .ok (.putfield 56, 3) := by decide +kernel
theorem dX11_covers_5 : decode cX11_covers 5 = .ok (.iload_n 1, 1) := by decide +kernel
theorem dX11_covers_6 : decode cX11_covers 6 = .ok (.iconst 0, 1) := by decide +kernel
theorem dX11_covers_7 : decode cX11_covers 7 = .ok (.sipush 9999, 3) := by decide +kernel
theorem dX11_covers_10 : decode cX11_covers 10 = .ok (.invokestatic 60, 3) := by decide +kernel
theorem dX11_covers_13 : decode cX11_covers 13 = .ok (.ifCond .ne 5, 3) := by decide +kernel
theorem dX11_covers_16 : decode cX11_covers 16 = .ok (.iconst (-1), 1) := by decide +kernel
theorem dX11_covers_17 : decode cX11_covers 17 = .ok (.ireturn, 1) := by decide +kernel
theorem dX11_covers_18 : decode cX11_covers 18 = .ok (.aload_n 0, 1) := by decide +kernel
theorem dX11_covers_19 : decode cX11_covers 19 = .ok (.invokevirtual 165, 3) := by decide +kernel
theorem dX11_covers_22 : decode cX11_covers 22 = .ok (.iconst 2, 1) := by decide +kernel
theorem dX11_covers_23 : decode cX11_covers 23 = .ok (.if_icmp .ne 6, 3) := by decide +kernel
theorem dX11_covers_26 : decode cX11_covers 26 = .ok (.bipush (-2), 2) := by decide +kernel
theorem dX11_covers_28 : decode cX11_covers 28 = .ok (.ireturn, 1) := by decide +kernel
theorem dX11_covers_29 : decode cX11_covers 29 = .ok (.aload_n 0, 1) := by decide +kernel
theorem dX11_covers_30 : decode cX11_covers 30 = .ok (.invokevirtual 189, 3) := by decide +kernel
theorem dX11_covers_33 : decode cX11_covers 33 = .ok (.aload_n 0, 1) := by decide +kernel
theorem dX11_covers_34 : decode cX11_covers 34 = .ok (.iload_n 1, 1) := by decide +kernel
theorem dX11_covers_35 : decode cX11_covers 35 = .ok (.invokevirtual 235, 3) := by decide +kernel
theorem dX11_covers_38 : decode cX11_covers 38 = .ok (.ireturn, 1) := by decide +kernel
set_option maxRecDepth 20000 in
theorem ggX11_everywhere_X11_state : GoodIn wsX11_everywhere wsX11_state := goodIn_r _ [9, 10, 11, 12, 13, 8, 14, 15, 16, 17, 18, 19, 4, 20, 21, 22, 68, 69, 70, 71, 72, 73, 74, 75, 76, 77, 78, 79, 80, 81, 82, 83, 84, 85, 86, 87, 88, 89, 90, 91, 92, 93, 94, 95, 96, 97, 98, 99] (by decide +kernel) (by decide +kernel)
set_option maxRecDepth 20000 in
theorem gX11_everywhere_X11_state : GoodIn wsX11_everywhere (wsV RX11 165 RX11 yX11_state wsX11_state) := goodIn_app (goodIn_of _ (by decide +kernel)) ggX11_everywhere_X11_state
set_option maxRecDepth 20000 in
theorem ggX11_everywhere_X11_fromNow : GoodIn wsX11_everywhere wsX11_fromNow := goodIn_r _ [26, 27, 2, 10, 68, 69, 70, 71, 72, 73, 74, 75, 76, 77, 78, 79, 80, 81, 82, 83, 84, 85, 86, 87, 88, 89, 90, 91, 92, 93, 94, 95, 96, 97, 98, 99] (by decide +kernel) (by decide +kernel)
set_option maxRecDepth 20000 in
theorem gX11_everywhere_X11_fromNow : GoodIn wsX11_everywhere (wsV RX11 189 RX11 yX11_fromNow wsX11_fromNow) := goodIn_app (goodIn_of _ (by decide +kernel)) ggX11_everywhere_X11_fromNow
set_option maxRecDepth 20000 in
theorem ggX11_everywhere_X11_bares : GoodIn wsX11_everywhere wsX11_bares := goodIn_r _ [31, 3, 68, 69, 70, 71, 72, 73, 74, 75, 76, 77, 78, 79, 80, 81, 82, 83, 84, 85, 86, 87, 88, 89, 90, 91, 92, 93, 94, 95, 96, 97, 98, 99] (by decide +kernel) (by decide +kernel)
set_option maxRecDepth 20000 in
theorem gX11_everywhere_X11_bares : GoodIn wsX11_everywhere (wsV RX11 177 RX11 yX11_bares wsX11_bares) := goodIn_app (goodIn_of _ (by decide +kernel)) ggX11_everywhere_X11_bares
set_option maxRecDepth 20000 in
theorem ggX11_everywhere_X11_startMany : GoodIn wsX11_everywhere wsX11_startMany := goodIn_r _ [35, 4, 36, 37, 38, 8, 39, 19, 68, 69, 70, 71, 72, 73, 74, 75, 76, 77, 78, 79, 80, 81, 82, 83, 84, 85, 86, 87, 88, 89, 90, 91, 92, 93, 94, 95, 96, 97, 98, 99] (by decide +kernel) (by decide +kernel)
set_option maxRecDepth 20000 in
theorem gX11_everywhere_X11_startMany : GoodIn wsX11_everywhere (wsV RX11 226 RX11 yX11_startMany wsX11_startMany) := goodIn_app (goodIn_of _ (by decide +kernel)) ggX11_everywhere_X11_startMany
set_option maxRecDepth 20000 in
theorem ggX11_everywhere_X11_cellOf : GoodIn wsX11_everywhere wsX11_cellOf := goodIn_r _ [43, 19, 68, 69, 70, 71, 72, 73, 74, 75, 76, 77, 78, 79, 80, 81, 82, 83, 84, 85, 86, 87, 88, 89, 90, 91, 92, 93, 94, 95, 96, 97, 98, 99] (by decide +kernel) (by decide +kernel)
set_option maxRecDepth 20000 in
theorem gX11_everywhere_X11_cellOf : GoodIn wsX11_everywhere (wsV RX11 174 RX11 yX11_cellOf wsX11_cellOf) := goodIn_app (goodIn_of _ (by decide +kernel)) ggX11_everywhere_X11_cellOf
set_option maxRecDepth 20000 in
theorem ggX11_everywhere_X11_steps : GoodIn wsX11_everywhere wsX11_steps := goodIn_r _ [47, 27, 19, 48, 49, 50, 8, 51, 52, 53, 54, 55, 56, 57, 15, 16, 17, 18, 4, 20, 21, 22, 58, 59, 60, 61, 11, 12, 13, 14, 62, 63, 64, 65, 10, 66, 67, 68, 69, 70, 71, 72, 73, 74, 75, 76, 77, 78, 79, 80, 81, 82, 83, 84, 85, 86, 87, 88, 89, 90, 91, 92, 93, 94, 95, 96, 97, 98, 99] (by decide +kernel) (by decide +kernel)
set_option maxRecDepth 20000 in
theorem gX11_everywhere_X11_steps : GoodIn wsX11_everywhere (wsV RX11 161 RX11 yX11_steps wsX11_steps) := goodIn_app (goodIn_of _ (by decide +kernel)) ggX11_everywhere_X11_steps
theorem dX11_everywhere_0 : decode cX11_everywhere 0 = .ok (.aload_n 0, 1) := by decide +kernel
theorem dX11_everywhere_1 : decode cX11_everywhere 1 = .ok (.iconst 0, 1) := by decide +kernel
theorem dX11_everywhere_2 : decode cX11_everywhere 2 = .ok (.putfield 56, 3) := by decide +kernel
theorem dX11_everywhere_5 : decode cX11_everywhere 5 = .ok (.aload_n 0, 1) := by decide +kernel
theorem dX11_everywhere_6 : decode cX11_everywhere 6 = .ok (.invokevirtual 165, 3) := by decide +kernel
theorem dX11_everywhere_9 : decode cX11_everywhere 9 = .ok (.iconst 2, 1) := by decide +kernel
theorem dX11_everywhere_10 : decode cX11_everywhere 10 = .ok (.if_icmp .ne 6, 3) := by decide +kernel
theorem dX11_everywhere_13 : decode cX11_everywhere 13 = .ok (.bipush (-2), 2) := by decide +kernel
theorem dX11_everywhere_15 : decode cX11_everywhere 15 = .ok (.ireturn, 1) := by decide +kernel
theorem dX11_everywhere_16 : decode cX11_everywhere 16 = .ok (.aload_n 0, 1) := by decide +kernel
theorem dX11_everywhere_17 : decode cX11_everywhere 17 = .ok (.invokevirtual 189, 3) := by decide +kernel
theorem dX11_everywhere_20 : decode cX11_everywhere 20 = .ok (.aload_n 0, 1) := by decide +kernel
theorem dX11_everywhere_21 : decode cX11_everywhere 21 = .ok (.invokevirtual 177, 3) := by decide +kernel
theorem dX11_everywhere_24 : decode cX11_everywhere 24 = .ok (.aload_n 0, 1) := by decide +kernel
theorem dX11_everywhere_25 : decode cX11_everywhere 25 = .ok (.invokevirtual 226, 3) := by decide +kernel
theorem dX11_everywhere_28 : decode cX11_everywhere 28 = .ok (.bipush 8, 2) := by decide +kernel
theorem dX11_everywhere_30 : decode cX11_everywhere 30 = .ok (.idiv, 1) := by decide +kernel
theorem dX11_everywhere_31 : decode cX11_everywhere 31 = .ok (.istore_n 1, 1) := by decide +kernel
theorem dX11_everywhere_32 : decode cX11_everywhere 32 = .ok (.iconst 1, 1) := by decide +kernel
theorem dX11_everywhere_33 : decode cX11_everywhere 33 = .ok (.istore_n 2, 1) := by decide +kernel
theorem dX11_everywhere_34 : decode cX11_everywhere 34 = .ok (.iconst 0, 1) := by decide +kernel
theorem dX11_everywhere_35 : decode cX11_everywhere 35 = .ok (.istore_n 3, 1) := by decide +kernel
theorem dX11_everywhere_36 : decode cX11_everywhere 36 = .ok (.iload_n 3, 1) := by decide +kernel
theorem dX11_everywhere_37 : decode cX11_everywhere 37 = .ok (.sipush 10000, 3) := by decide +kernel
theorem dX11_everywhere_40 : decode cX11_everywhere 40 = .ok (.if_icmp .ge 83, 3) := by decide +kernel
theorem dX11_everywhere_43 : decode cX11_everywhere 43 = .ok (.iload_n 2, 1) := by decide +kernel
theorem dX11_everywhere_44 : decode cX11_everywhere 44 = .ok (.ifCond .eq 79, 3) := by decide +kernel
theorem dX11_everywhere_47 : decode cX11_everywhere 47 = .ok (.aload_n 0, 1) := by decide +kernel
theorem dX11_everywhere_48 : decode cX11_everywhere 48 = .ok (.aload_n 0, 1) := by decide +kernel
theorem dX11_everywhere_49 : decode cX11_everywhere 49 = .ok (.getfield 29, 3) := by decide +kernel
theorem dX11_everywhere_52 : decode cX11_everywhere 52 = .ok (.invokevirtual 174, 3) := by decide +kernel
theorem dX11_everywhere_55 : decode cX11_everywhere 55 = .ok (.istore 4, 2) := by decide +kernel
theorem dX11_everywhere_57 : decode cX11_everywhere 57 = .ok (.iload_n 1, 1) := by decide +kernel
theorem dX11_everywhere_58 : decode cX11_everywhere 58 = .ok (.aload_n 0, 1) := by decide +kernel
theorem dX11_everywhere_59 : decode cX11_everywhere 59 = .ok (.getfield 38, 3) := by decide +kernel
theorem dX11_everywhere_62 : decode cX11_everywhere 62 = .ok (.iload 4, 2) := by decide +kernel
theorem dX11_everywhere_64 : decode cX11_everywhere 64 = .ok (.iaload, 1) := by decide +kernel
theorem dX11_everywhere_65 : decode cX11_everywhere 65 = .ok (.ifCond .ne 17, 3) := by decide +kernel
theorem dX11_everywhere_68 : decode cX11_everywhere 68 = .ok (.aload_n 0, 1) := by decide +kernel
theorem dX11_everywhere_69 : decode cX11_everywhere 69 = .ok (.getfield 16, 3) := by decide +kernel
theorem dX11_everywhere_72 : decode cX11_everywhere 72 = .ok (.iload 4, 2) := by decide +kernel
theorem dX11_everywhere_74 : decode cX11_everywhere 74 = .ok (.iaload, 1) := by decide +kernel
theorem dX11_everywhere_75 : decode cX11_everywhere 75 = .ok (.ifCond .ne 7, 3) := by decide +kernel
theorem dX11_everywhere_78 : decode cX11_everywhere 78 = .ok (.iconst 1, 1) := by decide +kernel
theorem dX11_everywhere_79 : decode cX11_everywhere 79 = .ok (.goto 4, 3) := by decide +kernel
theorem dX11_everywhere_82 : decode cX11_everywhere 82 = .ok (.iconst 0, 1) := by decide +kernel
theorem dX11_everywhere_83 : decode cX11_everywhere 83 = .ok (.isub, 1) := by decide +kernel
theorem dX11_everywhere_84 : decode cX11_everywhere 84 = .ok (.istore_n 1, 1) := by decide +kernel
theorem dX11_everywhere_85 : decode cX11_everywhere 85 = .ok (.aload_n 0, 1) := by decide +kernel
theorem dX11_everywhere_86 : decode cX11_everywhere 86 = .ok (.getfield 38, 3) := by decide +kernel
theorem dX11_everywhere_89 : decode cX11_everywhere 89 = .ok (.iload 4, 2) := by decide +kernel
theorem dX11_everywhere_91 : decode cX11_everywhere 91 = .ok (.iconst 1, 1) := by decide +kernel
theorem dX11_everywhere_92 : decode cX11_everywhere 92 = .ok (.iastore, 1) := by decide +kernel
theorem dX11_everywhere_93 : decode cX11_everywhere 93 = .ok (.iload_n 1, 1) := by decide +kernel
theorem dX11_everywhere_94 : decode cX11_everywhere 94 = .ok (.ifCond .ne 5, 3) := by decide +kernel
theorem dX11_everywhere_97 : decode cX11_everywhere 97 = .ok (.iload_n 3, 1) := by decide +kernel
theorem dX11_everywhere_98 : decode cX11_everywhere 98 = .ok (.ireturn, 1) := by decide +kernel
theorem dX11_everywhere_99 : decode cX11_everywhere 99 = .ok (.aload_n 0, 1) := by decide +kernel
theorem dX11_everywhere_100 : decode cX11_everywhere 100 = .ok (.aload_n 0, 1) := by decide +kernel
theorem dX11_everywhere_101 : decode cX11_everywhere 101 = .ok (.getfield 29, 3) := by decide +kernel
theorem dX11_everywhere_104 : decode cX11_everywhere 104 = .ok (.invokevirtual 161, 3) := by decide +kernel
theorem dX11_everywhere_107 : decode cX11_everywhere 107 = .ok (.iconst (-1), 1) := by decide +kernel
theorem dX11_everywhere_108 : decode cX11_everywhere 108 = .ok (.if_icmp .eq 7, 3) := by decide +kernel
theorem dX11_everywhere_111 : decode cX11_everywhere 111 = .ok (.iconst 1, 1) := by decide +kernel
theorem dX11_everywhere_112 : decode cX11_everywhere 112 = .ok (.goto 4, 3) := by decide +kernel
theorem dX11_everywhere_115 : decode cX11_everywhere 115 = .ok (.iconst 0, 1) := by decide +kernel
theorem dX11_everywhere_116 : decode cX11_everywhere 116 = .ok (.istore_n 2, 1) := by decide +kernel
theorem dX11_everywhere_117 : decode cX11_everywhere 117 = .ok (.iinc 3 1, 3) := by decide +kernel
theorem dX11_everywhere_120 : decode cX11_everywhere 120 = .ok (.goto (-84), 3) := by decide +kernel
theorem dX11_everywhere_123 : decode cX11_everywhere 123 = .ok (.bipush (-9), 2) := by decide +kernel
theorem dX11_everywhere_125 : decode cX11_everywhere 125 = .ok (.ireturn, 1) := by decide +kernel
set_option maxRecDepth 20000 in
theorem ggX11_best_X11_in : GoodIn wsX11_best wsX11_in := goodIn_r _ [6] (by decide +kernel) (by decide +kernel)
set_option maxRecDepth 20000 in
theorem gX11_best_X11_in : GoodIn wsX11_best (va_wsS RX11 60 yX11_in wsX11_in) := goodIn_app (goodIn_of _ (by decide +kernel)) ggX11_best_X11_in
set_option maxRecDepth 20000 in
theorem ggX11_best_X11_state : GoodIn wsX11_best wsX11_state := goodIn_r _ [10, 11, 12, 13, 14, 5, 15, 16, 17, 18, 19, 2, 20, 3, 4, 6, 64, 65, 66, 67, 68, 69, 70, 71, 72, 73, 74, 75, 76, 77, 78, 79, 80, 81, 82, 83, 84, 85, 86, 87, 88, 89, 90, 91, 92, 93, 94, 95] (by decide +kernel) (by decide +kernel)
set_option maxRecDepth 20000 in
theorem gX11_best_X11_state : GoodIn wsX11_best (wsV RX11 165 RX11 yX11_state wsX11_state) := goodIn_app (goodIn_of _ (by decide +kernel)) ggX11_best_X11_state
set_option maxRecDepth 20000 in
theorem ggX11_best_X11_fromNow : GoodIn wsX11_best wsX11_fromNow := goodIn_r _ [24, 25, 26, 11, 64, 65, 66, 67, 68, 69, 70, 71, 72, 73, 74, 75, 76, 77, 78, 79, 80, 81, 82, 83, 84, 85, 86, 87, 88, 89, 90, 91, 92, 93, 94, 95] (by decide +kernel) (by decide +kernel)
set_option maxRecDepth 20000 in
theorem gX11_best_X11_fromNow : GoodIn wsX11_best (wsV RX11 189 RX11 yX11_fromNow wsX11_fromNow) := goodIn_app (goodIn_of _ (by decide +kernel)) ggX11_best_X11_fromNow
set_option maxRecDepth 20000 in
theorem ggX11_best_X11_coversBy : GoodIn wsX11_best wsX11_coversBy := goodIn_r _ [30, 31, 26, 32, 33, 34, 5, 35, 36, 37, 38, 39, 2, 40, 41, 42, 43, 25, 44, 45, 46, 47, 48, 49, 50, 51, 52, 53, 16, 17, 18, 19, 20, 3, 4, 6, 54, 55, 56, 57, 12, 13, 14, 15, 58, 59, 60, 61, 11, 62, 63, 64, 65, 66, 67, 68, 69, 70, 71, 72, 73, 74, 75, 76, 77, 78, 79, 80, 81, 82, 83, 84, 85, 86, 87, 88, 89, 90, 91, 92, 93, 94, 95] (by decide +kernel) (by decide +kernel)
set_option maxRecDepth 20000 in
theorem gX11_best_X11_coversBy : GoodIn wsX11_best (wsV RX11 235 RX11 yX11_coversBy wsX11_coversBy) := goodIn_app (goodIn_of _ (by decide +kernel)) ggX11_best_X11_coversBy
theorem dX11_best_0 : decode cX11_best 0 = .ok (.aload_n 0, 1) := by decide +kernel
theorem dX11_best_1 : decode cX11_best 1 = .ok (.iconst 0, 1) := by decide +kernel
theorem dX11_best_2 : decode cX11_best 2 = .ok (.putfield 56, 3) := by decide +kernel
theorem dX11_best_5 : decode cX11_best 5 = .ok (.iload_n 1, 1) := by decide +kernel
theorem dX11_best_6 : decode cX11_best 6 = .ok (.iconst 0, 1) := by decide +kernel
theorem dX11_best_7 : decode cX11_best 7 = .ok (.sipush 999, 3) := by decide +kernel
theorem dX11_best_10 : decode cX11_best 10 = .ok (.invokestatic 60, 3) := by decide +kernel
theorem dX11_best_13 : decode cX11_best 13 = .ok (.ifCond .ne 5, 3) := by decide +kernel
theorem dX11_best_16 : decode cX11_best 16 = .ok (.iconst (-1), 1) := by decide +kernel
theorem dX11_best_17 : decode cX11_best 17 = .ok (.ireturn, 1) := by decide +kernel
theorem dX11_best_18 : decode cX11_best 18 = .ok (.aload_n 0, 1) := by decide +kernel
theorem dX11_best_19 : decode cX11_best 19 = .ok (.invokevirtual 165, 3) := by decide +kernel
theorem dX11_best_22 : decode cX11_best 22 = .ok (.iconst 2, 1) := by decide +kernel
theorem dX11_best_23 : decode cX11_best 23 = .ok (.if_icmp .ne 6, 3) := by decide +kernel
theorem dX11_best_26 : decode cX11_best 26 = .ok (.bipush (-2), 2) := by decide +kernel
theorem dX11_best_28 : decode cX11_best 28 = .ok (.ireturn, 1) := by decide +kernel
theorem dX11_best_29 : decode cX11_best 29 = .ok (.aload_n 0, 1) := by decide +kernel
theorem dX11_best_30 : decode cX11_best 30 = .ok (.getfield 13, 3) := by decide +kernel
theorem dX11_best_33 : decode cX11_best 33 = .ok (.iconst 3, 1) := by decide +kernel
theorem dX11_best_34 : decode cX11_best 34 = .ok (.iaload, 1) := by decide +kernel
theorem dX11_best_35 : decode cX11_best 35 = .ok (.istore_n 2, 1) := by decide +kernel
theorem dX11_best_36 : decode cX11_best 36 = .ok (.iconst 0, 1) := by decide +kernel
theorem dX11_best_37 : decode cX11_best 37 = .ok (.istore_n 3, 1) := by decide +kernel
theorem dX11_best_38 : decode cX11_best 38 = .ok (.iconst 0, 1) := by decide +kernel
theorem dX11_best_39 : decode cX11_best 39 = .ok (.istore 4, 2) := by decide +kernel
theorem dX11_best_41 : decode cX11_best 41 = .ok (.iconst 1, 1) := by decide +kernel
theorem dX11_best_42 : decode cX11_best 42 = .ok (.istore 5, 2) := by decide +kernel
theorem dX11_best_44 : decode cX11_best 44 = .ok (.iload 5, 2) := by decide +kernel
theorem dX11_best_46 : decode cX11_best 46 = .ok (.bipush 8, 2) := by decide +kernel
theorem dX11_best_48 : decode cX11_best 48 = .ok (.if_icmp .ge 58, 3) := by decide +kernel
theorem dX11_best_51 : decode cX11_best 51 = .ok (.aload_n 0, 1) := by decide +kernel
theorem dX11_best_52 : decode cX11_best 52 = .ok (.getfield 13, 3) := by decide +kernel
theorem dX11_best_55 : decode cX11_best 55 = .ok (.iconst 3, 1) := by decide +kernel
theorem dX11_best_56 : decode cX11_best 56 = .ok (.iload 5, 2) := by decide +kernel
theorem dX11_best_58 : decode cX11_best 58 = .ok (.iastore, 1) := by decide +kernel
theorem dX11_best_59 : decode cX11_best 59 = .ok (.aload_n 0, 1) := by decide +kernel
theorem dX11_best_60 : decode cX11_best 60 = .ok (.invokevirtual 189, 3) := by decide +kernel
theorem dX11_best_63 : decode cX11_best 63 = .ok (.aload_n 0, 1) := by decide +kernel
theorem dX11_best_64 : decode cX11_best 64 = .ok (.iload_n 1, 1) := by decide +kernel
theorem dX11_best_65 : decode cX11_best 65 = .ok (.invokevirtual 235, 3) := by decide +kernel
theorem dX11_best_68 : decode cX11_best 68 = .ok (.istore 6, 2) := by decide +kernel
theorem dX11_best_70 : decode cX11_best 70 = .ok (.iload 6, 2) := by decide +kernel
theorem dX11_best_72 : decode cX11_best 72 = .ok (.iload 4, 2) := by decide +kernel
theorem dX11_best_74 : decode cX11_best 74 = .ok (.if_icmp .le 8, 3) := by decide +kernel
theorem dX11_best_77 : decode cX11_best 77 = .ok (.iload 5, 2) := by decide +kernel
theorem dX11_best_79 : decode cX11_best 79 = .ok (.goto 4, 3) := by decide +kernel
theorem dX11_best_82 : decode cX11_best 82 = .ok (.iload_n 3, 1) := by decide +kernel
theorem dX11_best_83 : decode cX11_best 83 = .ok (.istore_n 3, 1) := by decide +kernel
theorem dX11_best_84 : decode cX11_best 84 = .ok (.iload 6, 2) := by decide +kernel
theorem dX11_best_86 : decode cX11_best 86 = .ok (.iload 4, 2) := by decide +kernel
theorem dX11_best_88 : decode cX11_best 88 = .ok (.if_icmp .le 8, 3) := by decide +kernel
theorem dX11_best_91 : decode cX11_best 91 = .ok (.iload 6, 2) := by decide +kernel
theorem dX11_best_93 : decode cX11_best 93 = .ok (.goto 5, 3) := by decide +kernel
theorem dX11_best_96 : decode cX11_best 96 = .ok (.iload 4, 2) := by decide +kernel
theorem dX11_best_98 : decode cX11_best 98 = .ok (.istore 4, 2) := by decide +kernel
theorem dX11_best_100 : decode cX11_best 100 = .ok (.iinc 5 1, 3) := by decide +kernel
theorem dX11_best_103 : decode cX11_best 103 = .ok (.goto (-59), 3) := by decide +kernel
theorem dX11_best_106 : decode cX11_best 106 = .ok (.aload_n 0, 1) := by decide +kernel
theorem dX11_best_107 : decode cX11_best 107 = .ok (.getfield 13, 3) := by decide +kernel
theorem dX11_best_110 : decode cX11_best 110 = .ok (.iconst 3, 1) := by decide +kernel
theorem dX11_best_111 : decode cX11_best 111 = .ok (.iload_n 2, 1) := by decide +kernel
theorem dX11_best_112 : decode cX11_best 112 = .ok (.iastore, 1) := by decide +kernel
theorem dX11_best_113 : decode cX11_best 113 = .ok (.iload_n 3, 1) := by decide +kernel
theorem dX11_best_114 : decode cX11_best 114 = .ok (.ireturn, 1) := by decide +kernel
set_option maxRecDepth 20000 in
theorem ggX11_track_X11_cells : GoodIn wsX11_track wsX11_cells := goodIn_r _ [8, 9, 13, 14, 15, 16, 17, 18, 19, 20, 21, 22, 23, 24, 25, 26, 27, 28, 29, 30, 31, 32, 33, 34, 35, 36, 37, 38, 39, 40, 41, 42, 43, 44] (by decide +kernel) (by decide +kernel)
set_option maxRecDepth 20000 in
theorem gX11_track_X11_cells : GoodIn wsX11_track (wsV RX11 216 RX11 yX11_cells wsX11_cells) := goodIn_app (goodIn_of _ (by decide +kernel)) ggX11_track_X11_cells
set_option maxRecDepth 20000 in
theorem ggX11_track_X11_in : GoodIn wsX11_track wsX11_in := goodIn_r _ [12] (by decide +kernel) (by decide +kernel)
set_option maxRecDepth 20000 in
theorem gX11_track_X11_in : GoodIn wsX11_track (va_wsS RX11 60 yX11_in wsX11_in) := goodIn_app (goodIn_of _ (by decide +kernel)) ggX11_track_X11_in
theorem dX11_track_0 : decode cX11_track 0 = .ok (.aload_n 0, 1) := by decide +kernel
theorem dX11_track_1 : decode cX11_track 1 = .ok (.iconst 0, 1) := by decide +kernel
theorem dX11_track_2 : decode cX11_track 2 = .ok (.putfield 56, 3) := by decide +kernel
theorem dX11_track_5 : decode cX11_track 5 = .ok (.iload_n 1, 1) := by decide +kernel
theorem dX11_track_6 : decode cX11_track 6 = .ok (.iconst 0, 1) := by decide +kernel
theorem dX11_track_7 : decode cX11_track 7 = .ok (.aload_n 0, 1) := by decide +kernel
theorem dX11_track_8 : decode cX11_track 8 = .ok (.invokevirtual 216, 3) := by decide +kernel
theorem dX11_track_11 : decode cX11_track 11 = .ok (.iconst 1, 1) := by decide +kernel
theorem dX11_track_12 : decode cX11_track 12 = .ok (.isub, 1) := by decide +kernel
theorem dX11_track_13 : decode cX11_track 13 = .ok (.invokestatic 60, 3) := by decide +kernel
theorem dX11_track_16 : decode cX11_track 16 = .ok (.ifCond .ne 5, 3) := by decide +kernel
theorem dX11_track_19 : decode cX11_track 19 = .ok (.iconst (-1), 1) := by decide +kernel
theorem dX11_track_20 : decode cX11_track 20 = .ok (.ireturn, 1) := by decide +kernel
theorem dX11_track_21 : decode cX11_track 21 = .ok (.aload_n 0, 1) := by decide +kernel
theorem dX11_track_22 : decode cX11_track 22 = .ok (.getfield 125, 3) := by decide +kernel
theorem dX11_track_25 : decode cX11_track 25 = .ok (.bipush 16, 2) := by decide +kernel
theorem dX11_track_27 : decode cX11_track 27 = .ok (.if_icmp .ne 6, 3) := by decide +kernel
theorem dX11_track_30 : decode cX11_track 30 = .ok (.bipush (-3), 2) := by decide +kernel
theorem dX11_track_32 : decode cX11_track 32 = .ok (.ireturn, 1) := by decide +kernel
theorem dX11_track_33 : decode cX11_track 33 = .ok (.aload_n 0, 1) := by decide +kernel
theorem dX11_track_34 : decode cX11_track 34 = .ok (.getfield 44, 3) := by decide +kernel
theorem dX11_track_37 : decode cX11_track 37 = .ok (.aload_n 0, 1) := by decide +kernel
theorem dX11_track_38 : decode cX11_track 38 = .ok (.getfield 125, 3) := by decide +kernel
theorem dX11_track_41 : decode cX11_track 41 = .ok (.iload_n 1, 1) := by decide +kernel
theorem dX11_track_42 : decode cX11_track 42 = .ok (.iastore, 1) := by decide +kernel
theorem dX11_track_43 : decode cX11_track 43 = .ok (.aload_n 0, 1) := by decide +kernel
theorem dX11_track_44 : decode cX11_track 44 = .ok (.dup, 1) := by decide +kernel
theorem dX11_track_45 : decode cX11_track 45 = .ok (.getfield 125, 3) := by decide +kernel
theorem dX11_track_48 : decode cX11_track 48 = .ok (.iconst 1, 1) := by decide +kernel
theorem dX11_track_49 : decode cX11_track 49 = .ok (.iadd, 1) := by decide +kernel
theorem dX11_track_50 : decode cX11_track 50 = .ok (.putfield 125, 3) := by decide +kernel
theorem dX11_track_53 : decode cX11_track 53 = .ok (.aload_n 0, 1) := by decide +kernel
theorem dX11_track_54 : decode cX11_track 54 = .ok (.getfield 125, 3) := by decide +kernel
theorem dX11_track_57 : decode cX11_track 57 = .ok (.ireturn, 1) := by decide +kernel
theorem dX11_wipe_0 : decode cX11_wipe 0 = .ok (.aload_n 0, 1) := by decide +kernel
theorem dX11_wipe_1 : decode cX11_wipe 1 = .ok (.iconst 0, 1) := by decide +kernel
theorem dX11_wipe_2 : decode cX11_wipe 2 = .ok (.putfield 56, 3) := by decide +kernel
theorem dX11_wipe_5 : decode cX11_wipe 5 = .ok (.aload_n 0, 1) := by decide +kernel
theorem dX11_wipe_6 : decode cX11_wipe 6 = .ok (.getfield 125, 3) := by decide +kernel
theorem dX11_wipe_9 : decode cX11_wipe 9 = .ok (.istore_n 1, 1) := by decide +kernel
theorem dX11_wipe_10 : decode cX11_wipe 10 = .ok (.aload_n 0, 1) := by decide +kernel
theorem dX11_wipe_11 : decode cX11_wipe 11 = .ok (.iconst 0, 1) := by decide +kernel
theorem dX11_wipe_12 : decode cX11_wipe 12 = .ok (.putfield 125, 3) := by decide +kernel
theorem dX11_wipe_15 : decode cX11_wipe 15 = .ok (.iload_n 1, 1) := by decide +kernel
theorem dX11_wipe_16 : decode cX11_wipe 16 = .ok (.ireturn, 1) := by decide +kernel
set_option maxRecDepth 20000 in
theorem ggX11_goesTrack_X11_isWood : GoodIn wsX11_goesTrack wsX11_isWood := goodIn_r _ [9, 10, 11, 12, 8, 13, 3, 14, 15, 16, 17, 48, 49, 50, 51, 52, 53, 54, 55, 56, 57, 58, 59, 60, 61, 62, 63, 64, 65, 66, 67, 68, 69, 70, 71, 72, 73, 74, 75, 76, 77, 78, 79] (by decide +kernel) (by decide +kernel)
set_option maxRecDepth 20000 in
theorem gX11_goesTrack_X11_isWood : GoodIn wsX11_goesTrack (wsV RX11 140 RX11 yX11_isWood wsX11_isWood) := goodIn_app (goodIn_of _ (by decide +kernel)) ggX11_goesTrack_X11_isWood
set_option maxRecDepth 20000 in
theorem ggX11_goesTrack_X11_steps : GoodIn wsX11_goesTrack wsX11_steps := goodIn_r _ [21, 22, 3, 23, 24, 25, 8, 26, 27, 28, 29, 30, 31, 32, 10, 11, 12, 13, 14, 15, 16, 17, 33, 34, 35, 36, 5, 6, 7, 9, 37, 38, 39, 40, 41, 42, 43, 48, 49, 50, 51, 52, 53, 54, 55, 56, 57, 58, 59, 60, 61, 62, 63, 64, 65, 66, 67, 68, 69, 70, 71, 72, 73, 74, 75, 76, 77, 78, 79] (by decide +kernel) (by decide +kernel)
set_option maxRecDepth 20000 in
theorem gX11_goesTrack_X11_steps : GoodIn wsX11_goesTrack (wsV RX11 161 RX11 yX11_steps wsX11_steps) := goodIn_app (goodIn_of _ (by decide +kernel)) ggX11_goesTrack_X11_steps
set_option maxRecDepth 20000 in
theorem ggX11_goesTrack_X11_cellOf : GoodIn wsX11_goesTrack wsX11_cellOf := goodIn_r _ [47, 3, 48, 49, 50, 51, 52, 53, 54, 55, 56, 57, 58, 59, 60, 61, 62, 63, 64, 65, 66, 67, 68, 69, 70, 71, 72, 73, 74, 75, 76, 77, 78, 79] (by decide +kernel) (by decide +kernel)
set_option maxRecDepth 20000 in
theorem gX11_goesTrack_X11_cellOf : GoodIn wsX11_goesTrack (wsV RX11 174 RX11 yX11_cellOf wsX11_cellOf) := goodIn_app (goodIn_of _ (by decide +kernel)) ggX11_goesTrack_X11_cellOf
theorem dX11_goesTrack_0 : decode cX11_goesTrack 0 = .ok (.aload_n 0, 1) := by decide +kernel
theorem dX11_goesTrack_1 : decode cX11_goesTrack 1 = .ok (.getfield 29, 3) := by decide +kernel
theorem dX11_goesTrack_4 : decode cX11_goesTrack 4 = .ok (.iconst 0, 1) := by decide +kernel
theorem dX11_goesTrack_5 : decode cX11_goesTrack 5 = .ok (.aload_n 0, 1) := by decide +kernel
theorem dX11_goesTrack_6 : decode cX11_goesTrack 6 = .ok (.getfield 44, 3) := by decide +kernel
theorem dX11_goesTrack_9 : decode cX11_goesTrack 9 = .ok (.iconst 0, 1) := by decide +kernel
theorem dX11_goesTrack_10 : decode cX11_goesTrack 10 = .ok (.iaload, 1) := by decide +kernel
theorem dX11_goesTrack_11 : decode cX11_goesTrack 11 = .ok (.aload_n 0, 1) := by decide +kernel
theorem dX11_goesTrack_12 : decode cX11_goesTrack 12 = .ok (.getfield 13, 3) := by decide +kernel
theorem dX11_goesTrack_15 : decode cX11_goesTrack 15 = .ok (.iconst 0, 1) := by decide +kernel
theorem dX11_goesTrack_16 : decode cX11_goesTrack 16 = .ok (.iaload, 1) := by decide +kernel
theorem dX11_goesTrack_17 : decode cX11_goesTrack 17 = .ok (.irem, 1) := by decide +kernel
theorem dX11_goesTrack_18 : decode cX11_goesTrack 18 = .ok (.iastore, 1) := by decide +kernel
theorem dX11_goesTrack_19 : decode cX11_goesTrack 19 = .ok (.aload_n 0, 1) := by decide +kernel
theorem dX11_goesTrack_20 : decode cX11_goesTrack 20 = .ok (.getfield 29, 3) := by decide +kernel
theorem dX11_goesTrack_23 : decode cX11_goesTrack 23 = .ok (.iconst 1, 1) := by decide +kernel
theorem dX11_goesTrack_24 : decode cX11_goesTrack 24 = .ok (.aload_n 0, 1) := by decide +kernel
theorem dX11_goesTrack_25 : decode cX11_goesTrack 25 = .ok (.getfield 44, 3) := by decide +kernel
theorem dX11_goesTrack_28 : decode cX11_goesTrack 28 = .ok (.iconst 0, 1) := by decide +kernel
theorem dX11_goesTrack_29 : decode cX11_goesTrack 29 = .ok (.iaload, 1) := by decide +kernel
theorem dX11_goesTrack_30 : decode cX11_goesTrack 30 = .ok (.aload_n 0, 1) := by decide +kernel
theorem dX11_goesTrack_31 : decode cX11_goesTrack 31 = .ok (.getfield 13, 3) := by decide +kernel
theorem dX11_goesTrack_34 : decode cX11_goesTrack 34 = .ok (.iconst 0, 1) := by decide +kernel
theorem dX11_goesTrack_35 : decode cX11_goesTrack 35 = .ok (.iaload, 1) := by decide +kernel
theorem dX11_goesTrack_36 : decode cX11_goesTrack 36 = .ok (.idiv, 1) := by decide +kernel
theorem dX11_goesTrack_37 : decode cX11_goesTrack 37 = .ok (.iastore, 1) := by decide +kernel
theorem dX11_goesTrack_38 : decode cX11_goesTrack 38 = .ok (.aload_n 0, 1) := by decide +kernel
theorem dX11_goesTrack_39 : decode cX11_goesTrack 39 = .ok (.getfield 29, 3) := by decide +kernel
theorem dX11_goesTrack_42 : decode cX11_goesTrack 42 = .ok (.iconst 2, 1) := by decide +kernel
theorem dX11_goesTrack_43 : decode cX11_goesTrack 43 = .ok (.iload_n 1, 1) := by decide +kernel
