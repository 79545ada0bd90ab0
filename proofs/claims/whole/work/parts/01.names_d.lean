theorem dX12_feed_36 : decode cX12_feed 36 = .ok (.aload_n 0, 1) := by decide +kernel
theorem dX12_feed_37 : decode cX12_feed 37 = .ok (.getfield 23, 3) := by decide +kernel
theorem dX12_feed_40 : decode cX12_feed 40 = .ok (.aload_n 0, 1) := by decide +kernel
theorem dX12_feed_41 : decode cX12_feed 41 = .ok (.getfield 79, 3) := by decide +kernel
theorem dX12_feed_44 : decode cX12_feed 44 = .ok (.lload_n 1, 1) := by decide +kernel
theorem dX12_feed_45 : decode cX12_feed 45 = .ok (.bipush 8, 2) := by decide +kernel
theorem dX12_feed_47 : decode cX12_feed 47 = .ok (.iload 4, 2) := by decide +kernel
theorem dX12_feed_49 : decode cX12_feed 49 = .ok (.imul, 1) := by decide +kernel
theorem dX12_feed_50 : decode cX12_feed 50 = .ok (.lshr, 1) := by decide +kernel
theorem dX12_feed_51 : decode cX12_feed 51 = .ok (.ldc2_w 82, 3) := by decide +kernel
theorem dX12_feed_54 : decode cX12_feed 54 = .ok (.land, 1) := by decide +kernel
theorem dX12_feed_55 : decode cX12_feed 55 = .ok (.l2i, 1) := by decide +kernel
theorem dX12_feed_56 : decode cX12_feed 56 = .ok (.iastore, 1) := by decide +kernel
theorem dX12_feed_57 : decode cX12_feed 57 = .ok (.aload_n 0, 1) := by decide +kernel
theorem dX12_feed_58 : decode cX12_feed 58 = .ok (.dup, 1) := by decide +kernel
theorem dX12_feed_59 : decode cX12_feed 59 = .ok (.getfield 79, 3) := by decide +kernel
theorem dX12_feed_62 : decode cX12_feed 62 = .ok (.iconst 1, 1) := by decide +kernel
theorem dX12_feed_63 : decode cX12_feed 63 = .ok (.iadd, 1) := by decide +kernel
theorem dX12_feed_64 : decode cX12_feed 64 = .ok (.putfield 79, 3) := by decide +kernel
theorem dX12_feed_67 : decode cX12_feed 67 = .ok (.iinc 4 1, 3) := by decide +kernel
theorem dX12_feed_70 : decode cX12_feed 70 = .ok (.goto (-40), 3) := by decide +kernel
theorem dX12_feed_73 : decode cX12_feed 73 = .ok (.aload_n 0, 1) := by decide +kernel
theorem dX12_feed_74 : decode cX12_feed 74 = .ok (.getfield 79, 3) := by decide +kernel
theorem dX12_feed_77 : decode cX12_feed 77 = .ok (.ireturn, 1) := by decide +kernel
theorem dX12_byteAt_0 : decode cX12_byteAt 0 = .ok (.iload_n 1, 1) := by decide +kernel
theorem dX12_byteAt_1 : decode cX12_byteAt 1 = .ok (.aload_n 0, 1) := by decide +kernel
theorem dX12_byteAt_2 : decode cX12_byteAt 2 = .ok (.getfield 79, 3) := by decide +kernel
theorem dX12_byteAt_5 : decode cX12_byteAt 5 = .ok (.if_icmp .ge 12, 3) := by decide +kernel
theorem dX12_byteAt_8 : decode cX12_byteAt 8 = .ok (.aload_n 0, 1) := by decide +kernel
theorem dX12_byteAt_9 : decode cX12_byteAt 9 = .ok (.getfield 23, 3) := by decide +kernel
theorem dX12_byteAt_12 : decode cX12_byteAt 12 = .ok (.iload_n 1, 1) := by decide +kernel
theorem dX12_byteAt_13 : decode cX12_byteAt 13 = .ok (.iaload, 1) := by decide +kernel
theorem dX12_byteAt_14 : decode cX12_byteAt 14 = .ok (.goto 4, 3) := by decide +kernel
theorem dX12_byteAt_17 : decode cX12_byteAt 17 = .ok (.iconst (-1), 1) := by decide +kernel
theorem dX12_byteAt_18 : decode cX12_byteAt 18 = .ok (.ireturn, 1) := by decide +kernel
set_option maxRecDepth 20000 in
theorem ggX12_isLetter_X12_in : GoodIn wsX12_isLetter wsX12_in := goodIn_r _ [4] (by decide +kernel) (by decide +kernel)
set_option maxRecDepth 20000 in
theorem gX12_isLetter_X12_in : GoodIn wsX12_isLetter (va_wsS RX12 72 yX12_in wsX12_in) := goodIn_app (goodIn_of _ (by decide +kernel)) ggX12_isLetter_X12_in
theorem dX12_isLetter_0 : decode cX12_isLetter 0 = .ok (.iload_n 0, 1) := by decide +kernel
theorem dX12_isLetter_1 : decode cX12_isLetter 1 = .ok (.bipush 97, 2) := by decide +kernel
theorem dX12_isLetter_3 : decode cX12_isLetter 3 = .ok (.bipush 122, 2) := by decide +kernel
theorem dX12_isLetter_5 : decode cX12_isLetter 5 = .ok (.invokestatic 72, 3) := by decide +kernel
theorem dX12_isLetter_8 : decode cX12_isLetter 8 = .ok (.ireturn, 1) := by decide +kernel
set_option maxRecDepth 20000 in
theorem ggX12_isDigit_X12_in : GoodIn wsX12_isDigit wsX12_in := goodIn_r _ [4] (by decide +kernel) (by decide +kernel)
set_option maxRecDepth 20000 in
theorem gX12_isDigit_X12_in : GoodIn wsX12_isDigit (va_wsS RX12 72 yX12_in wsX12_in) := goodIn_app (goodIn_of _ (by decide +kernel)) ggX12_isDigit_X12_in
theorem dX12_isDigit_0 : decode cX12_isDigit 0 = .ok (.iload_n 0, 1) := by decide +kernel
theorem dX12_isDigit_1 : decode cX12_isDigit 1 = .ok (.bipush 48, 2) := by decide +kernel
theorem dX12_isDigit_3 : decode cX12_isDigit 3 = .ok (.bipush 57, 2) := by decide +kernel
theorem dX12_isDigit_5 : decode cX12_isDigit 5 = .ok (.invokestatic 72, 3) := by decide +kernel
theorem dX12_isDigit_8 : decode cX12_isDigit 8 = .ok (.ireturn, 1) := by decide +kernel
set_option maxRecDepth 20000 in
theorem ggX12_advance_X12_byteAt : GoodIn wsX12_advance wsX12_byteAt := goodIn_r _ [13, 14, 15, 25, 26, 27, 28, 29, 30, 31, 32, 33, 34, 35, 36, 37, 38, 39, 40, 41, 42, 43, 44, 45, 46, 47, 48, 49, 50, 51, 52, 53, 54, 55, 56, 57, 58, 59, 60, 61, 62, 63] (by decide +kernel) (by decide +kernel)
set_option maxRecDepth 20000 in
theorem gX12_advance_X12_byteAt : GoodIn wsX12_advance (wsV RX12 90 RX12 yX12_byteAt wsX12_byteAt) := goodIn_app (goodIn_of _ (by decide +kernel)) ggX12_advance_X12_byteAt
set_option maxRecDepth 20000 in
theorem ggX12_advance_X12_isLetter : GoodIn wsX12_advance wsX12_isLetter := goodIn_r _ [18, 19, 20, 12, 21] (by decide +kernel) (by decide +kernel)
set_option maxRecDepth 20000 in
theorem gX12_advance_X12_isLetter : GoodIn wsX12_advance (va_wsS RX12 94 yX12_isLetter wsX12_isLetter) := goodIn_app (goodIn_of _ (by decide +kernel)) ggX12_advance_X12_isLetter
set_option maxRecDepth 20000 in
theorem ggX12_advance_X12_isDigit : GoodIn wsX12_advance wsX12_isDigit := goodIn_r _ [24, 19, 20, 12, 21] (by decide +kernel) (by decide +kernel)
set_option maxRecDepth 20000 in
theorem gX12_advance_X12_isDigit : GoodIn wsX12_advance (va_wsS RX12 98 yX12_isDigit wsX12_isDigit) := goodIn_app (goodIn_of _ (by decide +kernel)) ggX12_advance_X12_isDigit
theorem dX12_advance_0 : decode cX12_advance 0 = .ok (.aload_n 0, 1) := by decide +kernel
theorem dX12_advance_1 : decode cX12_advance 1 = .ok (.aload_n 0, 1) := by decide +kernel
theorem dX12_advance_2 : decode cX12_advance 2 = .ok (.getfield 84, 3) := by decide +kernel
theorem dX12_advance_5 : decode cX12_advance 5 = .ok (.putfield 87, 3) := by decide +kernel
theorem dX12_advance_8 : decode cX12_advance 8 = .ok (.aload_n 0, 1) := by decide +kernel
theorem dX12_advance_9 : decode cX12_advance 9 = .ok (.aload_n 0, 1) := by decide +kernel
theorem dX12_advance_10 : decode cX12_advance 10 = .ok (.getfield 87, 3) := by decide +kernel
theorem dX12_advance_13 : decode cX12_advance 13 = .ok (.invokevirtual 90, 3) := by decide +kernel
theorem dX12_advance_16 : decode cX12_advance 16 = .ok (.bipush 32, 2) := by decide +kernel
theorem dX12_advance_18 : decode cX12_advance 18 = .ok (.if_icmp .ne 16, 3) := by decide +kernel
theorem dX12_advance_21 : decode cX12_advance 21 = .ok (.aload_n 0, 1) := by decide +kernel
theorem dX12_advance_22 : decode cX12_advance 22 = .ok (.dup, 1) := by decide +kernel
theorem dX12_advance_23 : decode cX12_advance 23 = .ok (.getfield 87, 3) := by decide +kernel
theorem dX12_advance_26 : decode cX12_advance 26 = .ok (.iconst 1, 1) := by decide +kernel
theorem dX12_advance_27 : decode cX12_advance 27 = .ok (.iadd, 1) := by decide +kernel
theorem dX12_advance_28 : decode cX12_advance 28 = .ok (.putfield 87, 3) := by decide +kernel
theorem dX12_advance_31 : decode cX12_advance 31 = .ok (.goto (-23), 3) := by decide +kernel
theorem dX12_advance_34 : decode cX12_advance 34 = .ok (.aload_n 0, 1) := by decide +kernel
theorem dX12_advance_35 : decode cX12_advance 35 = .ok (.aload_n 0, 1) := by decide +kernel
theorem dX12_advance_36 : decode cX12_advance 36 = .ok (.getfield 87, 3) := by decide +kernel
theorem dX12_advance_39 : decode cX12_advance 39 = .ok (.putfield 84, 3) := by decide +kernel
theorem dX12_advance_42 : decode cX12_advance 42 = .ok (.aload_n 0, 1) := by decide +kernel
theorem dX12_advance_43 : decode cX12_advance 43 = .ok (.aload_n 0, 1) := by decide +kernel
theorem dX12_advance_44 : decode cX12_advance 44 = .ok (.getfield 87, 3) := by decide +kernel
theorem dX12_advance_47 : decode cX12_advance 47 = .ok (.invokevirtual 90, 3) := by decide +kernel
theorem dX12_advance_50 : decode cX12_advance 50 = .ok (.istore_n 1, 1) := by decide +kernel
theorem dX12_advance_51 : decode cX12_advance 51 = .ok (.aload_n 0, 1) := by decide +kernel
theorem dX12_advance_52 : decode cX12_advance 52 = .ok (.iload_n 1, 1) := by decide +kernel
theorem dX12_advance_53 : decode cX12_advance 53 = .ok (.ifCond .ge 7, 3) := by decide +kernel
theorem dX12_advance_56 : decode cX12_advance 56 = .ok (.iconst 0, 1) := by decide +kernel
theorem dX12_advance_57 : decode cX12_advance 57 = .ok (.goto 26, 3) := by decide +kernel
theorem dX12_advance_60 : decode cX12_advance 60 = .ok (.iload_n 1, 1) := by decide +kernel
theorem dX12_advance_61 : decode cX12_advance 61 = .ok (.invokestatic 94, 3) := by decide +kernel
theorem dX12_advance_64 : decode cX12_advance 64 = .ok (.ifCond .eq 7, 3) := by decide +kernel
theorem dX12_advance_67 : decode cX12_advance 67 = .ok (.iconst 1, 1) := by decide +kernel
theorem dX12_advance_68 : decode cX12_advance 68 = .ok (.goto 15, 3) := by decide +kernel
theorem dX12_advance_71 : decode cX12_advance 71 = .ok (.iload_n 1, 1) := by decide +kernel
theorem dX12_advance_72 : decode cX12_advance 72 = .ok (.invokestatic 98, 3) := by decide +kernel
theorem dX12_advance_75 : decode cX12_advance 75 = .ok (.ifCond .eq 7, 3) := by decide +kernel
theorem dX12_advance_78 : decode cX12_advance 78 = .ok (.iconst 2, 1) := by decide +kernel
theorem dX12_advance_79 : decode cX12_advance 79 = .ok (.goto 4, 3) := by decide +kernel
theorem dX12_advance_82 : decode cX12_advance 82 = .ok (.iconst 3, 1) := by decide +kernel
theorem dX12_advance_83 : decode cX12_advance 83 = .ok (.putfield 101, 3) := by decide +kernel
theorem dX12_advance_86 : decode cX12_advance 86 = .ok (.aload_n 0, 1) := by decide +kernel
theorem dX12_advance_87 : decode cX12_advance 87 = .ok (.lconst 0, 1) := by decide +kernel
theorem dX12_advance_88 : decode cX12_advance 88 = .ok (.putfield 104, 3) := by decide +kernel
theorem dX12_advance_91 : decode cX12_advance 91 = .ok (.aload_n 0, 1) := by decide +kernel
theorem dX12_advance_92 : decode cX12_advance 92 = .ok (.aload_n 0, 1) := by decide +kernel
theorem dX12_advance_93 : decode cX12_advance 93 = .ok (.getfield 101, 3) := by decide +kernel
theorem dX12_advance_96 : decode cX12_advance 96 = .ok (.iconst 2, 1) := by decide +kernel
theorem dX12_advance_97 : decode cX12_advance 97 = .ok (.if_icmp .ne 7, 3) := by decide +kernel
theorem dX12_advance_100 : decode cX12_advance 100 = .ok (.iconst 0, 1) := by decide +kernel
theorem dX12_advance_101 : decode cX12_advance 101 = .ok (.goto 4, 3) := by decide +kernel
theorem dX12_advance_104 : decode cX12_advance 104 = .ok (.iload_n 1, 1) := by decide +kernel
theorem dX12_advance_105 : decode cX12_advance 105 = .ok (.putfield 108, 3) := by decide +kernel
theorem dX12_advance_108 : decode cX12_advance 108 = .ok (.aload_n 0, 1) := by decide +kernel
theorem dX12_advance_109 : decode cX12_advance 109 = .ok (.getfield 101, 3) := by decide +kernel
theorem dX12_advance_112 : decode cX12_advance 112 = .ok (.iconst 3, 1) := by decide +kernel
theorem dX12_advance_113 : decode cX12_advance 113 = .ok (.if_icmp .ne 13, 3) := by decide +kernel
theorem dX12_advance_116 : decode cX12_advance 116 = .ok (.aload_n 0, 1) := by decide +kernel
theorem dX12_advance_117 : decode cX12_advance 117 = .ok (.dup, 1) := by decide +kernel
theorem dX12_advance_118 : decode cX12_advance 118 = .ok (.getfield 84, 3) := by decide +kernel
theorem dX12_advance_121 : decode cX12_advance 121 = .ok (.iconst 1, 1) := by decide +kernel
theorem dX12_advance_122 : decode cX12_advance 122 = .ok (.iadd, 1) := by decide +kernel
theorem dX12_advance_123 : decode cX12_advance 123 = .ok (.putfield 84, 3) := by decide +kernel
theorem dX12_advance_126 : decode cX12_advance 126 = .ok (.aload_n 0, 1) := by decide +kernel
theorem dX12_advance_127 : decode cX12_advance 127 = .ok (.getfield 101, 3) := by decide +kernel
theorem dX12_advance_130 : decode cX12_advance 130 = .ok (.iconst 1, 1) := by decide +kernel
theorem dX12_advance_131 : decode cX12_advance 131 = .ok (.if_icmp .ne 76, 3) := by decide +kernel
theorem dX12_advance_134 : decode cX12_advance 134 = .ok (.aload_n 0, 1) := by decide +kernel
theorem dX12_advance_135 : decode cX12_advance 135 = .ok (.aload_n 0, 1) := by decide +kernel
theorem dX12_advance_136 : decode cX12_advance 136 = .ok (.getfield 84, 3) := by decide +kernel
theorem dX12_advance_139 : decode cX12_advance 139 = .ok (.invokevirtual 90, 3) := by decide +kernel
theorem dX12_advance_142 : decode cX12_advance 142 = .ok (.invokestatic 94, 3) := by decide +kernel
theorem dX12_advance_145 : decode cX12_advance 145 = .ok (.ifCond .eq 62, 3) := by decide +kernel
theorem dX12_advance_148 : decode cX12_advance 148 = .ok (.aload_n 0, 1) := by decide +kernel
theorem dX12_advance_149 : decode cX12_advance 149 = .ok (.aload_n 0, 1) := by decide +kernel
theorem dX12_advance_150 : decode cX12_advance 150 = .ok (.getfield 84, 3) := by decide +kernel
theorem dX12_advance_153 : decode cX12_advance 153 = .ok (.aload_n 0, 1) := by decide +kernel
theorem dX12_advance_154 : decode cX12_advance 154 = .ok (.getfield 87, 3) := by decide +kernel
theorem dX12_advance_157 : decode cX12_advance 157 = .ok (.isub, 1) := by decide +kernel
theorem dX12_advance_158 : decode cX12_advance 158 = .ok (.bipush 8, 2) := by decide +kernel
theorem dX12_advance_160 : decode cX12_advance 160 = .ok (.if_icmp .ge 28, 3) := by decide +kernel
theorem dX12_advance_163 : decode cX12_advance 163 = .ok (.ldc2_w 111, 3) := by decide +kernel
theorem dX12_advance_166 : decode cX12_advance 166 = .ok (.aload_n 0, 1) := by decide +kernel
theorem dX12_advance_167 : decode cX12_advance 167 = .ok (.getfield 104, 3) := by decide +kernel
theorem dX12_advance_170 : decode cX12_advance 170 = .ok (.lmul, 1) := by decide +kernel
theorem dX12_advance_171 : decode cX12_advance 171 = .ok (.aload_n 0, 1) := by decide +kernel
theorem dX12_advance_172 : decode cX12_advance 172 = .ok (.aload_n 0, 1) := by decide +kernel
theorem dX12_advance_173 : decode cX12_advance 173 = .ok (.getfield 84, 3) := by decide +kernel
theorem dX12_advance_176 : decode cX12_advance 176 = .ok (.invokevirtual 90, 3) := by decide +kernel
theorem dX12_advance_179 : decode cX12_advance 179 = .ok (.i2l, 1) := by decide +kernel
theorem dX12_advance_180 : decode cX12_advance 180 = .ok (.ladd, 1) := by decide +kernel
theorem dX12_advance_181 : decode cX12_advance 181 = .ok (.ldc2_w 113, 3) := by decide +kernel
theorem dX12_advance_184 : decode cX12_advance 184 = .ok (.lsub, 1) := by decide +kernel
theorem dX12_advance_185 : decode cX12_advance 185 = .ok (.goto 6, 3) := by decide +kernel
theorem dX12_advance_188 : decode cX12_advance 188 = .ok (.ldc2_w 115, 3) := by decide +kernel
theorem dX12_advance_191 : decode cX12_advance 191 = .ok (.putfield 104, 3) := by decide +kernel
theorem dX12_advance_194 : decode cX12_advance 194 = .ok (.aload_n 0, 1) := by decide +kernel
theorem dX12_advance_195 : decode cX12_advance 195 = .ok (.dup, 1) := by decide +kernel
theorem dX12_advance_196 : decode cX12_advance 196 = .ok (.getfield 84, 3) := by decide +kernel
theorem dX12_advance_199 : decode cX12_advance 199 = .ok (.iconst 1, 1) := by decide +kernel
theorem dX12_advance_200 : decode cX12_advance 200 = .ok (.iadd, 1) := by decide +kernel
theorem dX12_advance_201 : decode cX12_advance 201 = .ok (.putfield 84, 3) := by decide +kernel
theorem dX12_advance_204 : decode cX12_advance 204 = .ok (.goto (-78), 3) := by decide +kernel
theorem dX12_advance_207 : decode cX12_advance 207 = .ok (.aload_n 0, 1) := by decide +kernel
theorem dX12_advance_208 : decode cX12_advance 208 = .ok (.getfield 101, 3) := by decide +kernel
theorem dX12_advance_211 : decode cX12_advance 211 = .ok (.iconst 2, 1) := by decide +kernel
theorem dX12_advance_212 : decode cX12_advance 212 = .ok (.if_icmp .ne 70, 3) := by decide +kernel
theorem dX12_advance_215 : decode cX12_advance 215 = .ok (.aload_n 0, 1) := by decide +kernel
theorem dX12_advance_216 : decode cX12_advance 216 = .ok (.aload_n 0, 1) := by decide +kernel
theorem dX12_advance_217 : decode cX12_advance 217 = .ok (.getfield 84, 3) := by decide +kernel
theorem dX12_advance_220 : decode cX12_advance 220 = .ok (.invokevirtual 90, 3) := by decide +kernel
theorem dX12_advance_223 : decode cX12_advance 223 = .ok (.invokestatic 98, 3) := by decide +kernel
theorem dX12_advance_226 : decode cX12_advance 226 = .ok (.ifCond .eq 56, 3) := by decide +kernel
theorem dX12_advance_229 : decode cX12_advance 229 = .ok (.aload_n 0, 1) := by decide +kernel
theorem dX12_advance_230 : decode cX12_advance 230 = .ok (.aload_n 0, 1) := by decide +kernel
theorem dX12_advance_231 : decode cX12_advance 231 = .ok (.getfield 84, 3) := by decide +kernel
theorem dX12_advance_234 : decode cX12_advance 234 = .ok (.aload_n 0, 1) := by decide +kernel
theorem dX12_advance_235 : decode cX12_advance 235 = .ok (.getfield 87, 3) := by decide +kernel
theorem dX12_advance_238 : decode cX12_advance 238 = .ok (.isub, 1) := by decide +kernel
theorem dX12_advance_239 : decode cX12_advance 239 = .ok (.iconst 2, 1) := by decide +kernel
theorem dX12_advance_240 : decode cX12_advance 240 = .ok (.if_icmp .ge 25, 3) := by decide +kernel
theorem dX12_advance_243 : decode cX12_advance 243 = .ok (.bipush 10, 2) := by decide +kernel
theorem dX12_advance_245 : decode cX12_advance 245 = .ok (.aload_n 0, 1) := by decide +kernel
theorem dX12_advance_246 : decode cX12_advance 246 = .ok (.getfield 108, 3) := by decide +kernel
theorem dX12_advance_249 : decode cX12_advance 249 = .ok (.imul, 1) := by decide +kernel
theorem dX12_advance_250 : decode cX12_advance 250 = .ok (.aload_n 0, 1) := by decide +kernel
theorem dX12_advance_251 : decode cX12_advance 251 = .ok (.aload_n 0, 1) := by decide +kernel
theorem dX12_advance_252 : decode cX12_advance 252 = .ok (.getfield 84, 3) := by decide +kernel
theorem dX12_advance_255 : decode cX12_advance 255 = .ok (.invokevirtual 90, 3) := by decide +kernel
theorem dX12_advance_258 : decode cX12_advance 258 = .ok (.iadd, 1) := by decide +kernel
theorem dX12_advance_259 : decode cX12_advance 259 = .ok (.bipush 48, 2) := by decide +kernel
theorem dX12_advance_261 : decode cX12_advance 261 = .ok (.isub, 1) := by decide +kernel
theorem dX12_advance_262 : decode cX12_advance 262 = .ok (.goto 4, 3) := by decide +kernel
theorem dX12_advance_265 : decode cX12_advance 265 = .ok (.iconst (-1), 1) := by decide +kernel
theorem dX12_advance_266 : decode cX12_advance 266 = .ok (.putfield 108, 3) := by decide +kernel
theorem dX12_advance_269 : decode cX12_advance 269 = .ok (.aload_n 0, 1) := by decide +kernel
theorem dX12_advance_270 : decode cX12_advance 270 = .ok (.dup, 1) := by decide +kernel
theorem dX12_advance_271 : decode cX12_advance 271 = .ok (.getfield 84, 3) := by decide +kernel
theorem dX12_advance_274 : decode cX12_advance 274 = .ok (.iconst 1, 1) := by decide +kernel
theorem dX12_advance_275 : decode cX12_advance 275 = .ok (.iadd, 1) := by decide +kernel
theorem dX12_advance_276 : decode cX12_advance 276 = .ok (.putfield 84, 3) := by decide +kernel
theorem dX12_advance_279 : decode cX12_advance 279 = .ok (.goto (-72), 3) := by decide +kernel
theorem dX12_advance_282 : decode cX12_advance 282 = .ok (.return_, 1) := by decide +kernel
theorem dX12_isWord_0 : decode cX12_isWord 0 = .ok (.aload_n 0, 1) := by decide +kernel
theorem dX12_isWord_1 : decode cX12_isWord 1 = .ok (.getfield 101, 3) := by decide +kernel
theorem dX12_isWord_4 : decode cX12_isWord 4 = .ok (.iconst 1, 1) := by decide +kernel
theorem dX12_isWord_5 : decode cX12_isWord 5 = .ok (.if_icmp .ne 16, 3) := by decide +kernel
theorem dX12_isWord_8 : decode cX12_isWord 8 = .ok (.aload_n 0, 1) := by decide +kernel
theorem dX12_isWord_9 : decode cX12_isWord 9 = .ok (.getfield 104, 3) := by decide +kernel
theorem dX12_isWord_12 : decode cX12_isWord 12 = .ok (.lload_n 1, 1) := by decide +kernel
theorem dX12_isWord_13 : decode cX12_isWord 13 = .ok (.lcmp, 1) := by decide +kernel
theorem dX12_isWord_14 : decode cX12_isWord 14 = .ok (.ifCond .ne 7, 3) := by decide +kernel
theorem dX12_isWord_17 : decode cX12_isWord 17 = .ok (.iconst 1, 1) := by decide +kernel
theorem dX12_isWord_18 : decode cX12_isWord 18 = .ok (.goto 4, 3) := by decide +kernel
theorem dX12_isWord_21 : decode cX12_isWord 21 = .ok (.iconst 0, 1) := by decide +kernel
theorem dX12_isWord_22 : decode cX12_isWord 22 = .ok (.ireturn, 1) := by decide +kernel
theorem dX12_isMark_0 : decode cX12_isMark 0 = .ok (.aload_n 0, 1) := by decide +kernel
theorem dX12_isMark_1 : decode cX12_isMark 1 = .ok (.getfield 101, 3) := by decide +kernel
theorem dX12_isMark_4 : decode cX12_isMark 4 = .ok (.iconst 3, 1) := by decide +kernel
theorem dX12_isMark_5 : decode cX12_isMark 5 = .ok (.if_icmp .ne 15, 3) := by decide +kernel
theorem dX12_isMark_8 : decode cX12_isMark 8 = .ok (.aload_n 0, 1) := by decide +kernel
theorem dX12_isMark_9 : decode cX12_isMark 9 = .ok (.getfield 108, 3) := by decide +kernel
theorem dX12_isMark_12 : decode cX12_isMark 12 = .ok (.iload_n 1, 1) := by decide +kernel
theorem dX12_isMark_13 : decode cX12_isMark 13 = .ok (.if_icmp .ne 7, 3) := by decide +kernel
theorem dX12_isMark_16 : decode cX12_isMark 16 = .ok (.iconst 1, 1) := by decide +kernel
theorem dX12_isMark_17 : decode cX12_isMark 17 = .ok (.goto 4, 3) := by decide +kernel
theorem dX12_isMark_20 : decode cX12_isMark 20 = .ok (.iconst 0, 1) := by decide +kernel
theorem dX12_isMark_21 : decode cX12_isMark 21 = .ok (.ireturn, 1) := by decide +kernel
set_option maxRecDepth 20000 in
theorem ggX12_kindHere_X12_isWord : GoodIn wsX12_kindHere wsX12_isWord := goodIn_r _ [11, 12, 13, 14, 15, 16, 17, 18, 19, 20, 21, 22, 23, 24, 25, 26, 27, 28, 29, 30, 31, 32, 33, 34, 35, 36, 37, 38, 39, 40, 41, 42, 43, 44, 45, 46, 47, 48, 49, 50, 51, 52] (by decide +kernel) (by decide +kernel)
set_option maxRecDepth 20000 in
theorem gX12_kindHere_X12_isWord : GoodIn wsX12_kindHere (wsV RX12 119 RX12 yX12_isWord wsX12_isWord) := goodIn_app (goodIn_of _ (by decide +kernel)) ggX12_kindHere_X12_isWord
theorem dX12_kindHere_0 : decode cX12_kindHere 0 = .ok (.aload_n 0, 1) := by decide +kernel
theorem dX12_kindHere_1 : decode cX12_kindHere 1 = .ok (.ldc2_w 117, 3) := by decide +kernel
theorem dX12_kindHere_4 : decode cX12_kindHere 4 = .ok (.invokevirtual 119, 3) := by decide +kernel
theorem dX12_kindHere_7 : decode cX12_kindHere 7 = .ok (.ifCond .eq 7, 3) := by decide +kernel
theorem dX12_kindHere_10 : decode cX12_kindHere 10 = .ok (.iconst 0, 1) := by decide +kernel
theorem dX12_kindHere_11 : decode cX12_kindHere 11 = .ok (.goto 74, 3) := by decide +kernel
theorem dX12_kindHere_14 : decode cX12_kindHere 14 = .ok (.aload_n 0, 1) := by decide +kernel
theorem dX12_kindHere_15 : decode cX12_kindHere 15 = .ok (.ldc2_w 123, 3) := by decide +kernel
theorem dX12_kindHere_18 : decode cX12_kindHere 18 = .ok (.invokevirtual 119, 3) := by decide +kernel
theorem dX12_kindHere_21 : decode cX12_kindHere 21 = .ok (.ifCond .eq 7, 3) := by decide +kernel
theorem dX12_kindHere_24 : decode cX12_kindHere 24 = .ok (.iconst 1, 1) := by decide +kernel
theorem dX12_kindHere_25 : decode cX12_kindHere 25 = .ok (.goto 60, 3) := by decide +kernel
theorem dX12_kindHere_28 : decode cX12_kindHere 28 = .ok (.aload_n 0, 1) := by decide +kernel
theorem dX12_kindHere_29 : decode cX12_kindHere 29 = .ok (.ldc2_w 125, 3) := by decide +kernel
theorem dX12_kindHere_32 : decode cX12_kindHere 32 = .ok (.invokevirtual 119, 3) := by decide +kernel
theorem dX12_kindHere_35 : decode cX12_kindHere 35 = .ok (.ifCond .eq 7, 3) := by decide +kernel
theorem dX12_kindHere_38 : decode cX12_kindHere 38 = .ok (.iconst 2, 1) := by decide +kernel
theorem dX12_kindHere_39 : decode cX12_kindHere 39 = .ok (.goto 46, 3) := by decide +kernel
theorem dX12_kindHere_42 : decode cX12_kindHere 42 = .ok (.aload_n 0, 1) := by decide +kernel
theorem dX12_kindHere_43 : decode cX12_kindHere 43 = .ok (.ldc2_w 127, 3) := by decide +kernel
theorem dX12_kindHere_46 : decode cX12_kindHere 46 = .ok (.invokevirtual 119, 3) := by decide +kernel
theorem dX12_kindHere_49 : decode cX12_kindHere 49 = .ok (.ifCond .eq 7, 3) := by decide +kernel
theorem dX12_kindHere_52 : decode cX12_kindHere 52 = .ok (.iconst 3, 1) := by decide +kernel
theorem dX12_kindHere_53 : decode cX12_kindHere 53 = .ok (.goto 32, 3) := by decide +kernel
theorem dX12_kindHere_56 : decode cX12_kindHere 56 = .ok (.aload_n 0, 1) := by decide +kernel
theorem dX12_kindHere_57 : decode cX12_kindHere 57 = .ok (.ldc2_w 129, 3) := by decide +kernel
theorem dX12_kindHere_60 : decode cX12_kindHere 60 = .ok (.invokevirtual 119, 3) := by decide +kernel
theorem dX12_kindHere_63 : decode cX12_kindHere 63 = .ok (.ifCond .eq 7, 3) := by decide +kernel
theorem dX12_kindHere_66 : decode cX12_kindHere 66 = .ok (.iconst 4, 1) := by decide +kernel
theorem dX12_kindHere_67 : decode cX12_kindHere 67 = .ok (.goto 18, 3) := by decide +kernel
theorem dX12_kindHere_70 : decode cX12_kindHere 70 = .ok (.aload_n 0, 1) := by decide +kernel
theorem dX12_kindHere_71 : decode cX12_kindHere 71 = .ok (.ldc2_w 131, 3) := by decide +kernel
theorem dX12_kindHere_74 : decode cX12_kindHere 74 = .ok (.invokevirtual 119, 3) := by decide +kernel
theorem dX12_kindHere_77 : decode cX12_kindHere 77 = .ok (.ifCond .eq 7, 3) := by decide +kernel
theorem dX12_kindHere_80 : decode cX12_kindHere 80 = .ok (.iconst 5, 1) := by decide +kernel
theorem dX12_kindHere_81 : decode cX12_kindHere 81 = .ok (.goto 4, 3) := by decide +kernel
theorem dX12_kindHere_84 : decode cX12_kindHere 84 = .ok (.iconst (-1), 1) := by decide +kernel
theorem dX12_kindHere_85 : decode cX12_kindHere 85 = .ok (.ireturn, 1) := by decide +kernel
set_option maxRecDepth 20000 in
theorem ggX12_wantNumber_X12_in : GoodIn wsX12_wantNumber wsX12_in := goodIn_r _ [7] (by decide +kernel) (by decide +kernel)
set_option maxRecDepth 20000 in
theorem gX12_wantNumber_X12_in : GoodIn wsX12_wantNumber (va_wsS RX12 72 yX12_in wsX12_in) := goodIn_app (goodIn_of _ (by decide +kernel)) ggX12_wantNumber_X12_in
set_option maxRecDepth 20000 in
theorem ggX12_wantNumber_X12_advance : GoodIn wsX12_wantNumber wsX12_advance := goodIn_r _ [11, 12, 13, 3, 14, 1, 15, 16, 17, 18, 19, 20, 6, 21, 22, 23, 24, 25, 26, 4, 5, 7, 27, 28, 29, 30, 31, 32, 33, 34, 35, 36, 37, 38, 39, 40, 41, 42, 43, 44, 45, 46, 47, 48, 49, 50, 51, 52, 53, 54, 55, 56, 57, 58, 59, 60, 61, 62, 63, 64, 65, 66, 67, 68] (by decide +kernel) (by decide +kernel)
set_option maxRecDepth 20000 in
theorem gX12_wantNumber_X12_advance : GoodIn wsX12_wantNumber (wsV RX12 137 RX12 yX12_advance wsX12_advance) := goodIn_app (goodIn_of _ (by decide +kernel)) ggX12_wantNumber_X12_advance
theorem dX12_wantNumber_0 : decode cX12_wantNumber 0 = .ok (.aload_n 0, 1) := by decide +kernel
theorem dX12_wantNumber_1 : decode cX12_wantNumber 1 = .ok (.getfield 108, 3) := by decide +kernel
theorem dX12_wantNumber_4 : decode cX12_wantNumber 4 = .ok (.istore_n 3, 1) := by decide +kernel
theorem dX12_wantNumber_5 : decode cX12_wantNumber 5 = .ok (.aload_n 0, 1) := by decide +kernel
theorem dX12_wantNumber_6 : decode cX12_wantNumber 6 = .ok (.aload_n 0, 1) := by decide +kernel
theorem dX12_wantNumber_7 : decode cX12_wantNumber 7 = .ok (.getfield 133, 3) := by decide +kernel
theorem dX12_wantNumber_10 : decode cX12_wantNumber 10 = .ok (.ifCond .eq 24, 3) := by decide +kernel
theorem dX12_wantNumber_13 : decode cX12_wantNumber 13 = .ok (.aload_n 0, 1) := by decide +kernel
theorem dX12_wantNumber_14 : decode cX12_wantNumber 14 = .ok (.getfield 101, 3) := by decide +kernel
theorem dX12_wantNumber_17 : decode cX12_wantNumber 17 = .ok (.iconst 2, 1) := by decide +kernel
theorem dX12_wantNumber_18 : decode cX12_wantNumber 18 = .ok (.if_icmp .ne 16, 3) := by decide +kernel
theorem dX12_wantNumber_21 : decode cX12_wantNumber 21 = .ok (.iload_n 3, 1) := by decide +kernel
theorem dX12_wantNumber_22 : decode cX12_wantNumber 22 = .ok (.iload_n 1, 1) := by decide +kernel
theorem dX12_wantNumber_23 : decode cX12_wantNumber 23 = .ok (.iload_n 2, 1) := by decide +kernel
theorem dX12_wantNumber_24 : decode cX12_wantNumber 24 = .ok (.invokestatic 72, 3) := by decide +kernel
theorem dX12_wantNumber_27 : decode cX12_wantNumber 27 = .ok (.ifCond .eq 7, 3) := by decide +kernel
theorem dX12_wantNumber_30 : decode cX12_wantNumber 30 = .ok (.iconst 1, 1) := by decide +kernel
theorem dX12_wantNumber_31 : decode cX12_wantNumber 31 = .ok (.goto 4, 3) := by decide +kernel
theorem dX12_wantNumber_34 : decode cX12_wantNumber 34 = .ok (.iconst 0, 1) := by decide +kernel
theorem dX12_wantNumber_35 : decode cX12_wantNumber 35 = .ok (.putfield 133, 3) := by decide +kernel
theorem dX12_wantNumber_38 : decode cX12_wantNumber 38 = .ok (.aload_n 0, 1) := by decide +kernel
theorem dX12_wantNumber_39 : decode cX12_wantNumber 39 = .ok (.getfield 133, 3) := by decide +kernel
theorem dX12_wantNumber_42 : decode cX12_wantNumber 42 = .ok (.ifCond .eq 7, 3) := by decide +kernel
theorem dX12_wantNumber_45 : decode cX12_wantNumber 45 = .ok (.aload_n 0, 1) := by decide +kernel
theorem dX12_wantNumber_46 : decode cX12_wantNumber 46 = .ok (.invokevirtual 137, 3) := by decide +kernel
theorem dX12_wantNumber_49 : decode cX12_wantNumber 49 = .ok (.iload_n 3, 1) := by decide +kernel
theorem dX12_wantNumber_50 : decode cX12_wantNumber 50 = .ok (.ireturn, 1) := by decide +kernel
set_option maxRecDepth 20000 in
theorem ggX12_wantMark_X12_isMark : GoodIn wsX12_wantMark wsX12_isMark := goodIn_r _ [6, 7, 8, 34, 35, 36, 37, 38, 39, 40, 41, 42, 43, 44, 45, 46, 47, 48, 49, 50, 51, 52, 53, 54, 55, 56, 57, 58, 59, 60, 61, 62, 63, 64, 65, 66, 67, 68, 69, 70, 71, 72] (by decide +kernel) (by decide +kernel)
set_option maxRecDepth 20000 in
theorem gX12_wantMark_X12_isMark : GoodIn wsX12_wantMark (wsV RX12 140 RX12 yX12_isMark wsX12_isMark) := goodIn_app (goodIn_of _ (by decide +kernel)) ggX12_wantMark_X12_isMark
set_option maxRecDepth 20000 in
theorem ggX12_wantMark_X12_advance : GoodIn wsX12_wantMark wsX12_advance := goodIn_r _ [12, 13, 14, 7, 15, 8, 16, 17, 18, 19, 20, 21, 5, 22, 23, 24, 25, 26, 27, 28, 29, 30, 31, 32, 33, 34, 35, 36, 37, 38, 39, 40, 41, 42, 43, 44, 45, 46, 47, 48, 49, 50, 51, 52, 53, 54, 55, 56, 57, 58, 59, 60, 61, 62, 63, 64, 65, 66, 67, 68, 69, 70, 71, 72] (by decide +kernel) (by decide +kernel)
set_option maxRecDepth 20000 in
theorem gX12_wantMark_X12_advance : GoodIn wsX12_wantMark (wsV RX12 137 RX12 yX12_advance wsX12_advance) := goodIn_app (goodIn_of _ (by decide +kernel)) ggX12_wantMark_X12_advance
theorem dX12_wantMark_0 : decode cX12_wantMark 0 = .ok (.aload_n 0, 1) := by decide +kernel
theorem dX12_wantMark_1 : decode cX12_wantMark 1 = .ok (.aload_n 0, 1) := by decide +kernel
theorem dX12_wantMark_2 : decode cX12_wantMark 2 = .ok (.getfield 133, 3) := by decide +kernel
theorem dX12_wantMark_5 : decode cX12_wantMark 5 = .ok (.ifCond .eq 15, 3) := by decide +kernel
theorem dX12_wantMark_8 : decode cX12_wantMark 8 = .ok (.aload_n 0, 1) := by decide +kernel
theorem dX12_wantMark_9 : decode cX12_wantMark 9 = .ok (.iload_n 1, 1) := by decide +kernel
theorem dX12_wantMark_10 : decode cX12_wantMark 10 = .ok (.invokevirtual 140, 3) := by decide +kernel
theorem dX12_wantMark_13 : decode cX12_wantMark 13 = .ok (.ifCond .eq 7, 3) := by decide +kernel
theorem dX12_wantMark_16 : decode cX12_wantMark 16 = .ok (.iconst 1, 1) := by decide +kernel
theorem dX12_wantMark_17 : decode cX12_wantMark 17 = .ok (.goto 4, 3) := by decide +kernel
theorem dX12_wantMark_20 : decode cX12_wantMark 20 = .ok (.iconst 0, 1) := by decide +kernel
theorem dX12_wantMark_21 : decode cX12_wantMark 21 = .ok (.putfield 133, 3) := by decide +kernel
theorem dX12_wantMark_24 : decode cX12_wantMark 24 = .ok (.aload_n 0, 1) := by decide +kernel
theorem dX12_wantMark_25 : decode cX12_wantMark 25 = .ok (.getfield 133, 3) := by decide +kernel
theorem dX12_wantMark_28 : decode cX12_wantMark 28 = .ok (.ifCond .eq 7, 3) := by decide +kernel
theorem dX12_wantMark_31 : decode cX12_wantMark 31 = .ok (.aload_n 0, 1) := by decide +kernel
theorem dX12_wantMark_32 : decode cX12_wantMark 32 = .ok (.invokevirtual 137, 3) := by decide +kernel
theorem dX12_wantMark_35 : decode cX12_wantMark 35 = .ok (.return_, 1) := by decide +kernel
set_option maxRecDepth 20000 in
theorem ggX12_wantPane_X12_advance : GoodIn wsX12_wantPane wsX12_advance := goodIn_r _ [9, 10, 11, 12, 13, 14, 15, 16, 17, 18, 19, 20, 8, 21, 22, 23, 24, 25, 26, 27, 28, 29, 30, 31, 32, 49, 50, 51, 52, 53, 54, 55, 56, 57, 58, 59, 60, 61, 62, 63, 64, 65, 66, 67, 68, 69, 70, 71, 72, 73, 74, 75, 76, 77, 78, 79, 80, 81, 82, 83, 84, 85, 86, 87] (by decide +kernel) (by decide +kernel)
set_option maxRecDepth 20000 in
theorem gX12_wantPane_X12_advance : GoodIn wsX12_wantPane (wsV RX12 137 RX12 yX12_advance wsX12_advance) := goodIn_app (goodIn_of _ (by decide +kernel)) ggX12_wantPane_X12_advance
set_option maxRecDepth 20000 in
theorem ggX12_wantPane_X12_wantNumber : GoodIn wsX12_wantPane wsX12_wantNumber := goodIn_r _ [36, 14, 2, 12, 27, 28, 8, 29, 5, 6, 7, 9, 10, 11, 13, 15, 16, 17, 18, 19, 20, 21, 22, 23, 24, 25, 26, 30, 31, 32, 49, 50, 51, 52, 53, 54, 55, 56, 57, 58, 59, 60, 61, 62, 63, 64, 65, 66, 67, 68, 69, 70, 71, 72, 73, 74, 75, 76, 77, 78, 79, 80, 81, 82, 83, 84, 85, 86, 87] (by decide +kernel) (by decide +kernel)
set_option maxRecDepth 20000 in
theorem gX12_wantPane_X12_wantNumber : GoodIn wsX12_wantPane (wsV RX12 146 RX12 yX12_wantNumber wsX12_wantNumber) := goodIn_app (goodIn_of _ (by decide +kernel)) ggX12_wantPane_X12_wantNumber
set_option maxRecDepth 20000 in
theorem ggX12_wantPane_X12_isWord : GoodIn wsX12_wantPane wsX12_isWord := goodIn_r _ [40, 12, 13, 49, 50, 51, 52, 53, 54, 55, 56, 57, 58, 59, 60, 61, 62, 63, 64, 65, 66, 67, 68, 69, 70, 71, 72, 73, 74, 75, 76, 77, 78, 79, 80, 81, 82, 83, 84, 85, 86, 87] (by decide +kernel) (by decide +kernel)
set_option maxRecDepth 20000 in
theorem gX12_wantPane_X12_isWord : GoodIn wsX12_wantPane (wsV RX12 119 RX12 yX12_isWord wsX12_isWord) := goodIn_app (goodIn_of _ (by decide +kernel)) ggX12_wantPane_X12_isWord
set_option maxRecDepth 20000 in
theorem ggX12_wantPane_X12_wantMark : GoodIn wsX12_wantPane wsX12_wantMark := goodIn_r _ [44, 2, 45, 46, 47, 8, 48, 12, 14, 5, 6, 7, 9, 10, 11, 13, 15, 16, 17, 18, 19, 20, 21, 22, 23, 24, 25, 26, 27, 28, 29, 30, 31, 32, 49, 50, 51, 52, 53, 54, 55, 56, 57, 58, 59, 60, 61, 62, 63, 64, 65, 66, 67, 68, 69, 70, 71, 72, 73, 74, 75, 76, 77, 78, 79, 80, 81, 82, 83, 84, 85, 86, 87] (by decide +kernel) (by decide +kernel)
set_option maxRecDepth 20000 in
theorem gX12_wantPane_X12_wantMark : GoodIn wsX12_wantPane (wsV RX12 152 RX12 yX12_wantMark wsX12_wantMark) := goodIn_app (goodIn_of _ (by decide +kernel)) ggX12_wantPane_X12_wantMark
theorem dX12_wantPane_0 : decode cX12_wantPane 0 = .ok (.aload_n 0, 1) := by decide +kernel
theorem dX12_wantPane_1 : decode cX12_wantPane 1 = .ok (.aload_n 0, 1) := by decide +kernel
theorem dX12_wantPane_2 : decode cX12_wantPane 2 = .ok (.getfield 143, 3) := by decide +kernel
theorem dX12_wantPane_5 : decode cX12_wantPane 5 = .ok (.bipush 6, 2) := by decide +kernel
theorem dX12_wantPane_7 : decode cX12_wantPane 7 = .ok (.if_icmp .ge 7, 3) := by decide +kernel
theorem dX12_wantPane_10 : decode cX12_wantPane 10 = .ok (.iconst 1, 1) := by decide +kernel
theorem dX12_wantPane_11 : decode cX12_wantPane 11 = .ok (.goto 4, 3) := by decide +kernel
theorem dX12_wantPane_14 : decode cX12_wantPane 14 = .ok (.iconst 0, 1) := by decide +kernel
theorem dX12_wantPane_15 : decode cX12_wantPane 15 = .ok (.putfield 133, 3) := by decide +kernel
theorem dX12_wantPane_18 : decode cX12_wantPane 18 = .ok (.aload_n 0, 1) := by decide +kernel
theorem dX12_wantPane_19 : decode cX12_wantPane 19 = .ok (.getfield 133, 3) := by decide +kernel
theorem dX12_wantPane_22 : decode cX12_wantPane 22 = .ok (.ifCond .eq 7, 3) := by decide +kernel
theorem dX12_wantPane_25 : decode cX12_wantPane 25 = .ok (.aload_n 0, 1) := by decide +kernel
theorem dX12_wantPane_26 : decode cX12_wantPane 26 = .ok (.invokevirtual 137, 3) := by decide +kernel
theorem dX12_wantPane_29 : decode cX12_wantPane 29 = .ok (.aload_n 0, 1) := by decide +kernel
theorem dX12_wantPane_30 : decode cX12_wantPane 30 = .ok (.iconst 1, 1) := by decide +kernel
theorem dX12_wantPane_31 : decode cX12_wantPane 31 = .ok (.bipush 16, 2) := by decide +kernel
theorem dX12_wantPane_33 : decode cX12_wantPane 33 = .ok (.invokevirtual 146, 3) := by decide +kernel
theorem dX12_wantPane_36 : decode cX12_wantPane 36 = .ok (.istore_n 2, 1) := by decide +kernel
theorem dX12_wantPane_37 : decode cX12_wantPane 37 = .ok (.iconst 4, 1) := by decide +kernel
theorem dX12_wantPane_38 : decode cX12_wantPane 38 = .ok (.istore_n 3, 1) := by decide +kernel
theorem dX12_wantPane_39 : decode cX12_wantPane 39 = .ok (.aload_n 0, 1) := by decide +kernel
theorem dX12_wantPane_40 : decode cX12_wantPane 40 = .ok (.getfield 133, 3) := by decide +kernel
theorem dX12_wantPane_43 : decode cX12_wantPane 43 = .ok (.ifCond .eq 24, 3) := by decide +kernel
theorem dX12_wantPane_46 : decode cX12_wantPane 46 = .ok (.aload_n 0, 1) := by decide +kernel
theorem dX12_wantPane_47 : decode cX12_wantPane 47 = .ok (.ldc2_w 150, 3) := by decide +kernel
theorem dX12_wantPane_50 : decode cX12_wantPane 50 = .ok (.invokevirtual 119, 3) := by decide +kernel
theorem dX12_wantPane_53 : decode cX12_wantPane 53 = .ok (.ifCond .eq 14, 3) := by decide +kernel
theorem dX12_wantPane_56 : decode cX12_wantPane 56 = .ok (.aload_n 0, 1) := by decide +kernel
theorem dX12_wantPane_57 : decode cX12_wantPane 57 = .ok (.invokevirtual 137, 3) := by decide +kernel
theorem dX12_wantPane_60 : decode cX12_wantPane 60 = .ok (.aload_n 0, 1) := by decide +kernel
theorem dX12_wantPane_61 : decode cX12_wantPane 61 = .ok (.iconst 0, 1) := by decide +kernel
theorem dX12_wantPane_62 : decode cX12_wantPane 62 = .ok (.iconst 3, 1) := by decide +kernel
theorem dX12_wantPane_63 : decode cX12_wantPane 63 = .ok (.invokevirtual 146, 3) := by decide +kernel
theorem dX12_wantPane_66 : decode cX12_wantPane 66 = .ok (.istore_n 3, 1) := by decide +kernel
theorem dX12_wantPane_67 : decode cX12_wantPane 67 = .ok (.aload_n 0, 1) := by decide +kernel
theorem dX12_wantPane_68 : decode cX12_wantPane 68 = .ok (.bipush 59, 2) := by decide +kernel
theorem dX12_wantPane_70 : decode cX12_wantPane 70 = .ok (.invokevirtual 152, 3) := by decide +kernel
theorem dX12_wantPane_73 : decode cX12_wantPane 73 = .ok (.aload_n 0, 1) := by decide +kernel
theorem dX12_wantPane_74 : decode cX12_wantPane 74 = .ok (.getfield 133, 3) := by decide +kernel
theorem dX12_wantPane_77 : decode cX12_wantPane 77 = .ok (.ifCond .eq 53, 3) := by decide +kernel
theorem dX12_wantPane_80 : decode cX12_wantPane 80 = .ok (.aload_n 0, 1) := by decide +kernel
theorem dX12_wantPane_81 : decode cX12_wantPane 81 = .ok (.getfield 32, 3) := by decide +kernel
theorem dX12_wantPane_84 : decode cX12_wantPane 84 = .ok (.iconst 3, 1) := by decide +kernel
theorem dX12_wantPane_85 : decode cX12_wantPane 85 = .ok (.aload_n 0, 1) := by decide +kernel
theorem dX12_wantPane_86 : decode cX12_wantPane 86 = .ok (.getfield 143, 3) := by decide +kernel
theorem dX12_wantPane_89 : decode cX12_wantPane 89 = .ok (.imul, 1) := by decide +kernel
theorem dX12_wantPane_90 : decode cX12_wantPane 90 = .ok (.iload_n 1, 1) := by decide +kernel
theorem dX12_wantPane_91 : decode cX12_wantPane 91 = .ok (.iastore, 1) := by decide +kernel
theorem dX12_wantPane_92 : decode cX12_wantPane 92 = .ok (.aload_n 0, 1) := by decide +kernel
theorem dX12_wantPane_93 : decode cX12_wantPane 93 = .ok (.getfield 32, 3) := by decide +kernel
theorem dX12_wantPane_96 : decode cX12_wantPane 96 = .ok (.iconst 3, 1) := by decide +kernel
theorem dX12_wantPane_97 : decode cX12_wantPane 97 = .ok (.aload_n 0, 1) := by decide +kernel
theorem dX12_wantPane_98 : decode cX12_wantPane 98 = .ok (.getfield 143, 3) := by decide +kernel
theorem dX12_wantPane_101 : decode cX12_wantPane 101 = .ok (.imul, 1) := by decide +kernel
theorem dX12_wantPane_102 : decode cX12_wantPane 102 = .ok (.iconst 1, 1) := by decide +kernel
theorem dX12_wantPane_103 : decode cX12_wantPane 103 = .ok (.iadd, 1) := by decide +kernel
theorem dX12_wantPane_104 : decode cX12_wantPane 104 = .ok (.iload_n 2, 1) := by decide +kernel
theorem dX12_wantPane_105 : decode cX12_wantPane 105 = .ok (.iastore, 1) := by decide +kernel
theorem dX12_wantPane_106 : decode cX12_wantPane 106 = .ok (.aload_n 0, 1) := by decide +kernel
theorem dX12_wantPane_107 : decode cX12_wantPane 107 = .ok (.getfield 32, 3) := by decide +kernel
theorem dX12_wantPane_110 : decode cX12_wantPane 110 = .ok (.iconst 3, 1) := by decide +kernel
theorem dX12_wantPane_111 : decode cX12_wantPane 111 = .ok (.aload_n 0, 1) := by decide +kernel
theorem dX12_wantPane_112 : decode cX12_wantPane 112 = .ok (.getfield 143, 3) := by decide +kernel
theorem dX12_wantPane_115 : decode cX12_wantPane 115 = .ok (.imul, 1) := by decide +kernel
theorem dX12_wantPane_116 : decode cX12_wantPane 116 = .ok (.iconst 2, 1) := by decide +kernel
theorem dX12_wantPane_117 : decode cX12_wantPane 117 = .ok (.iadd, 1) := by decide +kernel
theorem dX12_wantPane_118 : decode cX12_wantPane 118 = .ok (.iload_n 3, 1) := by decide +kernel
theorem dX12_wantPane_119 : decode cX12_wantPane 119 = .ok (.iastore, 1) := by decide +kernel
theorem dX12_wantPane_120 : decode cX12_wantPane 120 = .ok (.aload_n 0, 1) := by decide +kernel
theorem dX12_wantPane_121 : decode cX12_wantPane 121 = .ok (.dup, 1) := by decide +kernel
theorem dX12_wantPane_122 : decode cX12_wantPane 122 = .ok (.getfield 143, 3) := by decide +kernel
theorem dX12_wantPane_125 : decode cX12_wantPane 125 = .ok (.iconst 1, 1) := by decide +kernel
theorem dX12_wantPane_126 : decode cX12_wantPane 126 = .ok (.iadd, 1) := by decide +kernel
theorem dX12_wantPane_127 : decode cX12_wantPane 127 = .ok (.putfield 143, 3) := by decide +kernel
theorem dX12_wantPane_130 : decode cX12_wantPane 130 = .ok (.return_, 1) := by decide +kernel
set_option maxRecDepth 20000 in
theorem ggX12_wantOneView_X12_wantNumber : GoodIn wsX12_wantOneView wsX12_wantNumber := goodIn_r _ [7, 8, 1, 9, 10, 11, 6, 12, 13, 14, 15, 16, 17, 18, 19, 20, 21, 22, 23, 24, 25, 26, 27, 28, 29, 30, 31, 32, 33, 34, 35, 36, 37, 38, 39, 40, 41, 42, 43, 44, 45, 46, 47, 48, 49, 50, 51, 52, 53, 54, 55, 56, 57, 58, 59, 60, 61, 62, 63, 64, 65, 66, 67, 68, 69, 70, 71, 72, 73] (by decide +kernel) (by decide +kernel)
set_option maxRecDepth 20000 in
theorem gX12_wantOneView_X12_wantNumber : GoodIn wsX12_wantOneView (wsV RX12 146 RX12 yX12_wantNumber wsX12_wantNumber) := goodIn_app (goodIn_of _ (by decide +kernel)) ggX12_wantOneView_X12_wantNumber
theorem dX12_wantOneView_0 : decode cX12_wantOneView 0 = .ok (.aload_n 0, 1) := by decide +kernel
theorem dX12_wantOneView_1 : decode cX12_wantOneView 1 = .ok (.aload_n 0, 1) := by decide +kernel
theorem dX12_wantOneView_2 : decode cX12_wantOneView 2 = .ok (.getfield 133, 3) := by decide +kernel
theorem dX12_wantOneView_5 : decode cX12_wantOneView 5 = .ok (.ifCond .eq 13, 3) := by decide +kernel
theorem dX12_wantOneView_8 : decode cX12_wantOneView 8 = .ok (.iload_n 2, 1) := by decide +kernel
theorem dX12_wantOneView_9 : decode cX12_wantOneView 9 = .ok (.bipush 50, 2) := by decide +kernel
theorem dX12_wantOneView_11 : decode cX12_wantOneView 11 = .ok (.if_icmp .ge 7, 3) := by decide +kernel
theorem dX12_wantOneView_14 : decode cX12_wantOneView 14 = .ok (.iconst 1, 1) := by decide +kernel
theorem dX12_wantOneView_15 : decode cX12_wantOneView 15 = .ok (.goto 4, 3) := by decide +kernel
theorem dX12_wantOneView_18 : decode cX12_wantOneView 18 = .ok (.iconst 0, 1) := by decide +kernel
theorem dX12_wantOneView_19 : decode cX12_wantOneView 19 = .ok (.putfield 133, 3) := by decide +kernel
theorem dX12_wantOneView_22 : decode cX12_wantOneView 22 = .ok (.aload_n 0, 1) := by decide +kernel
theorem dX12_wantOneView_23 : decode cX12_wantOneView 23 = .ok (.iconst 0, 1) := by decide +kernel
theorem dX12_wantOneView_24 : decode cX12_wantOneView 24 = .ok (.bipush 99, 2) := by decide +kernel
theorem dX12_wantOneView_26 : decode cX12_wantOneView 26 = .ok (.invokevirtual 146, 3) := by decide +kernel
theorem dX12_wantOneView_29 : decode cX12_wantOneView 29 = .ok (.istore_n 3, 1) := by decide +kernel
theorem dX12_wantOneView_30 : decode cX12_wantOneView 30 = .ok (.aload_n 0, 1) := by decide +kernel
theorem dX12_wantOneView_31 : decode cX12_wantOneView 31 = .ok (.getfield 133, 3) := by decide +kernel
theorem dX12_wantOneView_34 : decode cX12_wantOneView 34 = .ok (.ifCond .eq 15, 3) := by decide +kernel
theorem dX12_wantOneView_37 : decode cX12_wantOneView 37 = .ok (.aload_n 0, 1) := by decide +kernel
theorem dX12_wantOneView_38 : decode cX12_wantOneView 38 = .ok (.getfield 26, 3) := by decide +kernel
theorem dX12_wantOneView_41 : decode cX12_wantOneView 41 = .ok (.bipush 50, 2) := by decide +kernel
theorem dX12_wantOneView_43 : decode cX12_wantOneView 43 = .ok (.iload_n 1, 1) := by decide +kernel
theorem dX12_wantOneView_44 : decode cX12_wantOneView 44 = .ok (.imul, 1) := by decide +kernel
theorem dX12_wantOneView_45 : decode cX12_wantOneView 45 = .ok (.iload_n 2, 1) := by decide +kernel
theorem dX12_wantOneView_46 : decode cX12_wantOneView 46 = .ok (.iadd, 1) := by decide +kernel
theorem dX12_wantOneView_47 : decode cX12_wantOneView 47 = .ok (.iload_n 3, 1) := by decide +kernel
theorem dX12_wantOneView_48 : decode cX12_wantOneView 48 = .ok (.iastore, 1) := by decide +kernel
theorem dX12_wantOneView_49 : decode cX12_wantOneView 49 = .ok (.return_, 1) := by decide +kernel
set_option maxRecDepth 20000 in
theorem ggX12_wantViews_X12_advance : GoodIn wsX12_wantViews wsX12_advance := goodIn_r _ [7, 8, 9, 10, 11, 12, 13, 14, 15, 16, 17, 18, 6, 19, 20, 21, 22, 23, 24, 25, 26, 27, 28, 29, 30, 52, 53, 54, 55, 56, 57, 58, 59, 60, 61, 62, 63, 64, 65, 66, 67, 68, 69, 70, 71, 72, 73, 74, 75, 76, 77, 78, 79, 80, 81, 82, 83, 84, 85, 86, 87, 88, 89, 90] (by decide +kernel) (by decide +kernel)
set_option maxRecDepth 20000 in
theorem gX12_wantViews_X12_advance : GoodIn wsX12_wantViews (wsV RX12 137 RX12 yX12_advance wsX12_advance) := goodIn_app (goodIn_of _ (by decide +kernel)) ggX12_wantViews_X12_advance
set_option maxRecDepth 20000 in
theorem ggX12_wantViews_X12_wantNumber : GoodIn wsX12_wantViews wsX12_wantNumber := goodIn_r _ [34, 12, 1, 10, 25, 26, 6, 27, 3, 4, 5, 7, 8, 9, 11, 13, 14, 15, 16, 17, 18, 19, 20, 21, 22, 23, 24, 28, 29, 30, 52, 53, 54, 55, 56, 57, 58, 59, 60, 61, 62, 63, 64, 65, 66, 67, 68, 69, 70, 71, 72, 73, 74, 75, 76, 77, 78, 79, 80, 81, 82, 83, 84, 85, 86, 87, 88, 89, 90] (by decide +kernel) (by decide +kernel)
set_option maxRecDepth 20000 in
theorem gX12_wantViews_X12_wantNumber : GoodIn wsX12_wantViews (wsV RX12 146 RX12 yX12_wantNumber wsX12_wantNumber) := goodIn_app (goodIn_of _ (by decide +kernel)) ggX12_wantViews_X12_wantNumber
set_option maxRecDepth 20000 in
theorem ggX12_wantViews_X12_isWord : GoodIn wsX12_wantViews wsX12_isWord := goodIn_r _ [38, 10, 11, 52, 53, 54, 55, 56, 57, 58, 59, 60, 61, 62, 63, 64, 65, 66, 67, 68, 69, 70, 71, 72, 73, 74, 75, 76, 77, 78, 79, 80, 81, 82, 83, 84, 85, 86, 87, 88, 89, 90] (by decide +kernel) (by decide +kernel)
set_option maxRecDepth 20000 in
theorem gX12_wantViews_X12_isWord : GoodIn wsX12_wantViews (wsV RX12 119 RX12 yX12_isWord wsX12_isWord) := goodIn_app (goodIn_of _ (by decide +kernel)) ggX12_wantViews_X12_isWord
set_option maxRecDepth 20000 in
theorem ggX12_wantViews_X12_wantMark : GoodIn wsX12_wantViews wsX12_wantMark := goodIn_r _ [42, 1, 43, 44, 45, 6, 46, 10, 12, 3, 4, 5, 7, 8, 9, 11, 13, 14, 15, 16, 17, 18, 19, 20, 21, 22, 23, 24, 25, 26, 27, 28, 29, 30, 52, 53, 54, 55, 56, 57, 58, 59, 60, 61, 62, 63, 64, 65, 66, 67, 68, 69, 70, 71, 72, 73, 74, 75, 76, 77, 78, 79, 80, 81, 82, 83, 84, 85, 86, 87, 88, 89, 90] (by decide +kernel) (by decide +kernel)
set_option maxRecDepth 20000 in
theorem gX12_wantViews_X12_wantMark : GoodIn wsX12_wantViews (wsV RX12 152 RX12 yX12_wantMark wsX12_wantMark) := goodIn_app (goodIn_of _ (by decide +kernel)) ggX12_wantViews_X12_wantMark
set_option maxRecDepth 20000 in
theorem ggX12_wantViews_X12_wantOneView : GoodIn wsX12_wantViews wsX12_wantOneView := goodIn_r _ [50, 1, 51, 31, 32, 33, 6, 34, 12, 10, 25, 26, 27, 3, 4, 5, 7, 8, 9, 11, 13, 14, 15, 16, 17, 18, 19, 20, 21, 22, 23, 24, 28, 29, 30, 52, 53, 54, 55, 56, 57, 58, 59, 60, 61, 62, 63, 64, 65, 66, 67, 68, 69, 70, 71, 72, 73, 74, 75, 76, 77, 78, 79, 80, 81, 82, 83, 84, 85, 86, 87, 88, 89, 90] (by decide +kernel) (by decide +kernel)
set_option maxRecDepth 20000 in
theorem gX12_wantViews_X12_wantOneView : GoodIn wsX12_wantViews (wsV RX12 158 RX12 yX12_wantOneView wsX12_wantOneView) := goodIn_app (goodIn_of _ (by decide +kernel)) ggX12_wantViews_X12_wantOneView
set_option maxRecDepth 20000 in
theorem ggX12_wantViews_X12_isMark : GoodIn wsX12_wantViews wsX12_isMark := goodIn_r _ [46, 10, 12, 52, 53, 54, 55, 56, 57, 58, 59, 60, 61, 62, 63, 64, 65, 66, 67, 68, 69, 70, 71, 72, 73, 74, 75, 76, 77, 78, 79, 80, 81, 82, 83, 84, 85, 86, 87, 88, 89, 90] (by decide +kernel) (by decide +kernel)
set_option maxRecDepth 20000 in
theorem gX12_wantViews_X12_isMark : GoodIn wsX12_wantViews (wsV RX12 140 RX12 yX12_isMark wsX12_isMark) := goodIn_app (goodIn_of _ (by decide +kernel)) ggX12_wantViews_X12_isMark
theorem dX12_wantViews_0 : decode cX12_wantViews 0 = .ok (.aload_n 0, 1) := by decide +kernel
theorem dX12_wantViews_1 : decode cX12_wantViews 1 = .ok (.invokevirtual 137, 3) := by decide +kernel
theorem dX12_wantViews_4 : decode cX12_wantViews 4 = .ok (.aload_n 0, 1) := by decide +kernel
theorem dX12_wantViews_5 : decode cX12_wantViews 5 = .ok (.iconst 0, 1) := by decide +kernel
theorem dX12_wantViews_6 : decode cX12_wantViews 6 = .ok (.iconst 3, 1) := by decide +kernel
theorem dX12_wantViews_7 : decode cX12_wantViews 7 = .ok (.invokevirtual 146, 3) := by decide +kernel
theorem dX12_wantViews_10 : decode cX12_wantViews 10 = .ok (.istore_n 1, 1) := by decide +kernel
theorem dX12_wantViews_11 : decode cX12_wantViews 11 = .ok (.aload_n 0, 1) := by decide +kernel
theorem dX12_wantViews_12 : decode cX12_wantViews 12 = .ok (.aload_n 0, 1) := by decide +kernel
theorem dX12_wantViews_13 : decode cX12_wantViews 13 = .ok (.getfield 133, 3) := by decide +kernel
theorem dX12_wantViews_16 : decode cX12_wantViews 16 = .ok (.ifCond .eq 17, 3) := by decide +kernel
theorem dX12_wantViews_19 : decode cX12_wantViews 19 = .ok (.aload_n 0, 1) := by decide +kernel
theorem dX12_wantViews_20 : decode cX12_wantViews 20 = .ok (.ldc2_w 156, 3) := by decide +kernel
theorem dX12_wantViews_23 : decode cX12_wantViews 23 = .ok (.invokevirtual 119, 3) := by decide +kernel
theorem dX12_wantViews_26 : decode cX12_wantViews 26 = .ok (.ifCond .eq 7, 3) := by decide +kernel
theorem dX12_wantViews_29 : decode cX12_wantViews 29 = .ok (.iconst 1, 1) := by decide +kernel
theorem dX12_wantViews_30 : decode cX12_wantViews 30 = .ok (.goto 4, 3) := by decide +kernel
theorem dX12_wantViews_33 : decode cX12_wantViews 33 = .ok (.iconst 0, 1) := by decide +kernel
theorem dX12_wantViews_34 : decode cX12_wantViews 34 = .ok (.putfield 133, 3) := by decide +kernel
theorem dX12_wantViews_37 : decode cX12_wantViews 37 = .ok (.aload_n 0, 1) := by decide +kernel
theorem dX12_wantViews_38 : decode cX12_wantViews 38 = .ok (.getfield 133, 3) := by decide +kernel
theorem dX12_wantViews_41 : decode cX12_wantViews 41 = .ok (.ifCond .eq 7, 3) := by decide +kernel
theorem dX12_wantViews_44 : decode cX12_wantViews 44 = .ok (.aload_n 0, 1) := by decide +kernel
theorem dX12_wantViews_45 : decode cX12_wantViews 45 = .ok (.invokevirtual 137, 3) := by decide +kernel
theorem dX12_wantViews_48 : decode cX12_wantViews 48 = .ok (.aload_n 0, 1) := by decide +kernel
theorem dX12_wantViews_49 : decode cX12_wantViews 49 = .ok (.iconst 0, 1) := by decide +kernel
theorem dX12_wantViews_50 : decode cX12_wantViews 50 = .ok (.bipush 49, 2) := by decide +kernel
theorem dX12_wantViews_52 : decode cX12_wantViews 52 = .ok (.invokevirtual 146, 3) := by decide +kernel
theorem dX12_wantViews_55 : decode cX12_wantViews 55 = .ok (.istore_n 2, 1) := by decide +kernel
theorem dX12_wantViews_56 : decode cX12_wantViews 56 = .ok (.aload_n 0, 1) := by decide +kernel
theorem dX12_wantViews_57 : decode cX12_wantViews 57 = .ok (.bipush 58, 2) := by decide +kernel
theorem dX12_wantViews_59 : decode cX12_wantViews 59 = .ok (.invokevirtual 152, 3) := by decide +kernel
theorem dX12_wantViews_62 : decode cX12_wantViews 62 = .ok (.aload_n 0, 1) := by decide +kernel
theorem dX12_wantViews_63 : decode cX12_wantViews 63 = .ok (.iload_n 1, 1) := by decide +kernel
theorem dX12_wantViews_64 : decode cX12_wantViews 64 = .ok (.iload_n 2, 1) := by decide +kernel
theorem dX12_wantViews_65 : decode cX12_wantViews 65 = .ok (.invokevirtual 158, 3) := by decide +kernel
theorem dX12_wantViews_68 : decode cX12_wantViews 68 = .ok (.aload_n 0, 1) := by decide +kernel
theorem dX12_wantViews_69 : decode cX12_wantViews 69 = .ok (.getfield 133, 3) := by decide +kernel
theorem dX12_wantViews_72 : decode cX12_wantViews 72 = .ok (.ifCond .eq 28, 3) := by decide +kernel
theorem dX12_wantViews_75 : decode cX12_wantViews 75 = .ok (.aload_n 0, 1) := by decide +kernel
theorem dX12_wantViews_76 : decode cX12_wantViews 76 = .ok (.bipush 44, 2) := by decide +kernel
theorem dX12_wantViews_78 : decode cX12_wantViews 78 = .ok (.invokevirtual 140, 3) := by decide +kernel
theorem dX12_wantViews_81 : decode cX12_wantViews 81 = .ok (.ifCond .eq 19, 3) := by decide +kernel
theorem dX12_wantViews_84 : decode cX12_wantViews 84 = .ok (.aload_n 0, 1) := by decide +kernel
theorem dX12_wantViews_85 : decode cX12_wantViews 85 = .ok (.invokevirtual 137, 3) := by decide +kernel
theorem dX12_wantViews_88 : decode cX12_wantViews 88 = .ok (.iinc 2 1, 3) := by decide +kernel
theorem dX12_wantViews_91 : decode cX12_wantViews 91 = .ok (.aload_n 0, 1) := by decide +kernel
theorem dX12_wantViews_92 : decode cX12_wantViews 92 = .ok (.iload_n 1, 1) := by decide +kernel
theorem dX12_wantViews_93 : decode cX12_wantViews 93 = .ok (.iload_n 2, 1) := by decide +kernel
theorem dX12_wantViews_94 : decode cX12_wantViews 94 = .ok (.invokevirtual 158, 3) := by decide +kernel
theorem dX12_wantViews_97 : decode cX12_wantViews 97 = .ok (.goto (-29), 3) := by decide +kernel
theorem dX12_wantViews_100 : decode cX12_wantViews 100 = .ok (.aload_n 0, 1) := by decide +kernel
theorem dX12_wantViews_101 : decode cX12_wantViews 101 = .ok (.bipush 59, 2) := by decide +kernel
theorem dX12_wantViews_103 : decode cX12_wantViews 103 = .ok (.invokevirtual 152, 3) := by decide +kernel
theorem dX12_wantViews_106 : decode cX12_wantViews 106 = .ok (.return_, 1) := by decide +kernel
set_option maxRecDepth 20000 in
theorem ggX12_wantLove_X12_advance : GoodIn wsX12_wantLove wsX12_advance := goodIn_r _ [8, 9, 10, 11, 12, 13, 14, 15, 16, 17, 18, 19, 7, 20, 21, 22, 23, 24, 25, 26, 27, 28, 29, 30, 31, 44, 45, 46, 47, 48, 49, 50, 51, 52, 53, 54, 55, 56, 57, 58, 59, 60, 61, 62, 63, 64, 65, 66, 67, 68, 69, 70, 71, 72, 73, 74, 75, 76, 77, 78, 79, 80, 81, 82] (by decide +kernel) (by decide +kernel)
set_option maxRecDepth 20000 in
theorem gX12_wantLove_X12_advance : GoodIn wsX12_wantLove (wsV RX12 137 RX12 yX12_advance wsX12_advance) := goodIn_app (goodIn_of _ (by decide +kernel)) ggX12_wantLove_X12_advance
set_option maxRecDepth 20000 in
theorem ggX12_wantLove_X12_wantNumber : GoodIn wsX12_wantLove wsX12_wantNumber := goodIn_r _ [35, 13, 2, 11, 26, 27, 7, 28, 4, 5, 6, 8, 9, 10, 12, 14, 15, 16, 17, 18, 19, 20, 21, 22, 23, 24, 25, 29, 30, 31, 44, 45, 46, 47, 48, 49, 50, 51, 52, 53, 54, 55, 56, 57, 58, 59, 60, 61, 62, 63, 64, 65, 66, 67, 68, 69, 70, 71, 72, 73, 74, 75, 76, 77, 78, 79, 80, 81, 82] (by decide +kernel) (by decide +kernel)
set_option maxRecDepth 20000 in
theorem gX12_wantLove_X12_wantNumber : GoodIn wsX12_wantLove (wsV RX12 146 RX12 yX12_wantNumber wsX12_wantNumber) := goodIn_app (goodIn_of _ (by decide +kernel)) ggX12_wantLove_X12_wantNumber
set_option maxRecDepth 20000 in
theorem ggX12_wantLove_X12_wantMark : GoodIn wsX12_wantLove wsX12_wantMark := goodIn_r _ [39, 2, 40, 41, 42, 7, 43, 11, 13, 4, 5, 6, 8, 9, 10, 12, 14, 15, 16, 17, 18, 19, 20, 21, 22, 23, 24, 25, 26, 27, 28, 29, 30, 31, 44, 45, 46, 47, 48, 49, 50, 51, 52, 53, 54, 55, 56, 57, 58, 59, 60, 61, 62, 63, 64, 65, 66, 67, 68, 69, 70, 71, 72, 73, 74, 75, 76, 77, 78, 79, 80, 81, 82] (by decide +kernel) (by decide +kernel)
set_option maxRecDepth 20000 in
theorem gX12_wantLove_X12_wantMark : GoodIn wsX12_wantLove (wsV RX12 152 RX12 yX12_wantMark wsX12_wantMark) := goodIn_app (goodIn_of _ (by decide +kernel)) ggX12_wantLove_X12_wantMark
theorem dX12_wantLove_0 : decode cX12_wantLove 0 = .ok (.aload_n 0, 1) := by decide +kernel
theorem dX12_wantLove_1 : decode cX12_wantLove 1 = .ok (.invokevirtual 137, 3) := by decide +kernel
theorem dX12_wantLove_4 : decode cX12_wantLove 4 = .ok (.aload_n 0, 1) := by decide +kernel
theorem dX12_wantLove_5 : decode cX12_wantLove 5 = .ok (.iconst 0, 1) := by decide +kernel
theorem dX12_wantLove_6 : decode cX12_wantLove 6 = .ok (.iconst 2, 1) := by decide +kernel
theorem dX12_wantLove_7 : decode cX12_wantLove 7 = .ok (.invokevirtual 146, 3) := by decide +kernel
theorem dX12_wantLove_10 : decode cX12_wantLove 10 = .ok (.istore_n 1, 1) := by decide +kernel
theorem dX12_wantLove_11 : decode cX12_wantLove 11 = .ok (.iconst 0, 1) := by decide +kernel
theorem dX12_wantLove_12 : decode cX12_wantLove 12 = .ok (.istore_n 2, 1) := by decide +kernel
theorem dX12_wantLove_13 : decode cX12_wantLove 13 = .ok (.iload_n 2, 1) := by decide +kernel
theorem dX12_wantLove_14 : decode cX12_wantLove 14 = .ok (.iconst 4, 1) := by decide +kernel
theorem dX12_wantLove_15 : decode cX12_wantLove 15 = .ok (.if_icmp .ge 22, 3) := by decide +kernel
theorem dX12_wantLove_18 : decode cX12_wantLove 18 = .ok (.aload_n 0, 1) := by decide +kernel
theorem dX12_wantLove_19 : decode cX12_wantLove 19 = .ok (.getfield 35, 3) := by decide +kernel
theorem dX12_wantLove_22 : decode cX12_wantLove 22 = .ok (.iload_n 2, 1) := by decide +kernel
theorem dX12_wantLove_23 : decode cX12_wantLove 23 = .ok (.aload_n 0, 1) := by decide +kernel
theorem dX12_wantLove_24 : decode cX12_wantLove 24 = .ok (.iconst 0, 1) := by decide +kernel
theorem dX12_wantLove_25 : decode cX12_wantLove 25 = .ok (.bipush 9, 2) := by decide +kernel
theorem dX12_wantLove_27 : decode cX12_wantLove 27 = .ok (.invokevirtual 146, 3) := by decide +kernel
theorem dX12_wantLove_30 : decode cX12_wantLove 30 = .ok (.iastore, 1) := by decide +kernel
theorem dX12_wantLove_31 : decode cX12_wantLove 31 = .ok (.iinc 2 1, 3) := by decide +kernel
theorem dX12_wantLove_34 : decode cX12_wantLove 34 = .ok (.goto (-21), 3) := by decide +kernel
theorem dX12_wantLove_37 : decode cX12_wantLove 37 = .ok (.aload_n 0, 1) := by decide +kernel
theorem dX12_wantLove_38 : decode cX12_wantLove 38 = .ok (.bipush 59, 2) := by decide +kernel
theorem dX12_wantLove_40 : decode cX12_wantLove 40 = .ok (.invokevirtual 152, 3) := by decide +kernel
theorem dX12_wantLove_43 : decode cX12_wantLove 43 = .ok (.iconst 0, 1) := by decide +kernel
theorem dX12_wantLove_44 : decode cX12_wantLove 44 = .ok (.istore_n 2, 1) := by decide +kernel
theorem dX12_wantLove_45 : decode cX12_wantLove 45 = .ok (.iload_n 2, 1) := by decide +kernel
theorem dX12_wantLove_46 : decode cX12_wantLove 46 = .ok (.iconst 4, 1) := by decide +kernel
theorem dX12_wantLove_47 : decode cX12_wantLove 47 = .ok (.if_icmp .ge 32, 3) := by decide +kernel
theorem dX12_wantLove_50 : decode cX12_wantLove 50 = .ok (.aload_n 0, 1) := by decide +kernel
theorem dX12_wantLove_51 : decode cX12_wantLove 51 = .ok (.getfield 133, 3) := by decide +kernel
theorem dX12_wantLove_54 : decode cX12_wantLove 54 = .ok (.ifCond .eq 25, 3) := by decide +kernel
theorem dX12_wantLove_57 : decode cX12_wantLove 57 = .ok (.aload_n 0, 1) := by decide +kernel
theorem dX12_wantLove_58 : decode cX12_wantLove 58 = .ok (.getfield 29, 3) := by decide +kernel
theorem dX12_wantLove_61 : decode cX12_wantLove 61 = .ok (.iconst 4, 1) := by decide +kernel
theorem dX12_wantLove_62 : decode cX12_wantLove 62 = .ok (.iload_n 1, 1) := by decide +kernel
theorem dX12_wantLove_63 : decode cX12_wantLove 63 = .ok (.imul, 1) := by decide +kernel
theorem dX12_wantLove_64 : decode cX12_wantLove 64 = .ok (.iload_n 2, 1) := by decide +kernel
theorem dX12_wantLove_65 : decode cX12_wantLove 65 = .ok (.iadd, 1) := by decide +kernel
theorem dX12_wantLove_66 : decode cX12_wantLove 66 = .ok (.aload_n 0, 1) := by decide +kernel
theorem dX12_wantLove_67 : decode cX12_wantLove 67 = .ok (.getfield 35, 3) := by decide +kernel
theorem dX12_wantLove_70 : decode cX12_wantLove 70 = .ok (.iload_n 2, 1) := by decide +kernel
theorem dX12_wantLove_71 : decode cX12_wantLove 71 = .ok (.iaload, 1) := by decide +kernel
theorem dX12_wantLove_72 : decode cX12_wantLove 72 = .ok (.iastore, 1) := by decide +kernel
theorem dX12_wantLove_73 : decode cX12_wantLove 73 = .ok (.iinc 2 1, 3) := by decide +kernel
theorem dX12_wantLove_76 : decode cX12_wantLove 76 = .ok (.goto (-31), 3) := by decide +kernel
theorem dX12_wantLove_79 : decode cX12_wantLove 79 = .ok (.return_, 1) := by decide +kernel
set_option maxRecDepth 20000 in
theorem ggX12_wantClause_X12_kindHere : GoodIn wsX12_wantClause wsX12_kindHere := goodIn_r _ [10, 11, 12, 13, 14, 15, 16, 17, 18, 19, 9, 20, 21, 22, 83, 84, 85, 86, 87, 88, 89, 90, 91, 92, 93, 94, 95, 96, 97, 98, 99, 100, 101, 102, 103, 104, 105, 106, 107, 108, 109, 110, 111, 112, 113, 114, 115, 116, 117, 118, 119, 120, 121] (by decide +kernel) (by decide +kernel)
set_option maxRecDepth 20000 in
theorem gX12_wantClause_X12_kindHere : GoodIn wsX12_wantClause (wsV RX12 162 RX12 yX12_kindHere wsX12_kindHere) := goodIn_app (goodIn_of _ (by decide +kernel)) ggX12_wantClause_X12_kindHere
set_option maxRecDepth 20000 in
theorem ggX12_wantClause_X12_wantPane : GoodIn wsX12_wantClause wsX12_wantPane := goodIn_r _ [26, 27, 5, 28, 29, 30, 31, 32, 9, 33, 34, 35, 21, 22, 36, 37, 38, 39, 40, 41, 42, 43, 44, 45, 46, 47, 48, 49, 50, 51, 52, 53, 54, 55, 56, 57, 58, 17, 18, 19, 20, 59, 60, 61, 62, 63, 64, 65, 66, 83, 84, 85, 86, 87, 88, 89, 90, 91, 92, 93, 94, 95, 96, 97, 98, 99, 100, 101, 102, 103, 104, 105, 106, 107, 108, 109, 110, 111, 112, 113, 114, 115, 116, 117, 118, 119, 120, 121] (by decide +kernel) (by decide +kernel)
set_option maxRecDepth 20000 in
theorem gX12_wantClause_X12_wantPane : GoodIn wsX12_wantClause (wsV RX12 166 RX12 yX12_wantPane wsX12_wantPane) := goodIn_app (goodIn_of _ (by decide +kernel)) ggX12_wantClause_X12_wantPane
set_option maxRecDepth 20000 in
theorem ggX12_wantClause_X12_isWord : GoodIn wsX12_wantClause wsX12_isWord := goodIn_r _ [20, 21, 22, 83, 84, 85, 86, 87, 88, 89, 90, 91, 92, 93, 94, 95, 96, 97, 98, 99, 100, 101, 102, 103, 104, 105, 106, 107, 108, 109, 110, 111, 112, 113, 114, 115, 116, 117, 118, 119, 120, 121] (by decide +kernel) (by decide +kernel)
set_option maxRecDepth 20000 in
theorem gX12_wantClause_X12_isWord : GoodIn wsX12_wantClause (wsV RX12 119 RX12 yX12_isWord wsX12_isWord) := goodIn_app (goodIn_of _ (by decide +kernel)) ggX12_wantClause_X12_isWord
set_option maxRecDepth 20000 in
theorem ggX12_wantClause_X12_wantViews : GoodIn wsX12_wantClause wsX12_wantViews := goodIn_r _ [70, 5, 71, 30, 31, 32, 9, 33, 34, 35, 21, 22, 36, 37, 38, 39, 40, 41, 42, 43, 44, 45, 46, 47, 48, 49, 50, 51, 52, 53, 54, 55, 56, 57, 58, 17, 18, 19, 20, 59, 60, 61, 62, 63, 64, 65, 66, 72, 73, 74, 75, 76, 83, 84, 85, 86, 87, 88, 89, 90, 91, 92, 93, 94, 95, 96, 97, 98, 99, 100, 101, 102, 103, 104, 105, 106, 107, 108, 109, 110, 111, 112, 113, 114, 115, 116, 117, 118, 119, 120, 121] (by decide +kernel) (by decide +kernel)
set_option maxRecDepth 20000 in
theorem gX12_wantClause_X12_wantViews : GoodIn wsX12_wantClause (wsV RX12 171 RX12 yX12_wantViews wsX12_wantViews) := goodIn_app (goodIn_of _ (by decide +kernel)) ggX12_wantClause_X12_wantViews
set_option maxRecDepth 20000 in
theorem ggX12_wantClause_X12_wantLove : GoodIn wsX12_wantClause wsX12_wantLove := goodIn_r _ [80, 81, 5, 82, 30, 31, 32, 9, 33, 34, 35, 21, 22, 36, 37, 38, 39, 40, 41, 42, 43, 44, 45, 46, 47, 48, 49, 50, 51, 52, 53, 54, 55, 56, 57, 58, 59, 60, 61, 62, 63, 64, 65, 66, 83, 84, 85, 86, 87, 88, 89, 90, 91, 92, 93, 94, 95, 96, 97, 98, 99, 100, 101, 102, 103, 104, 105, 106, 107, 108, 109, 110, 111, 112, 113, 114, 115, 116, 117, 118, 119, 120, 121] (by decide +kernel) (by decide +kernel)
set_option maxRecDepth 20000 in
theorem gX12_wantClause_X12_wantLove : GoodIn wsX12_wantClause (wsV RX12 176 RX12 yX12_wantLove wsX12_wantLove) := goodIn_app (goodIn_of _ (by decide +kernel)) ggX12_wantClause_X12_wantLove
set_option maxRecDepth 20000 in
theorem ggX12_wantClause_X12_advance : GoodIn wsX12_wantClause wsX12_advance := goodIn_r _ [33, 34, 35, 21, 22, 36, 37, 38, 39, 40, 41, 42, 9, 43, 44, 45, 46, 47, 48, 49, 50, 51, 52, 53, 54, 83, 84, 85, 86, 87, 88, 89, 90, 91, 92, 93, 94, 95, 96, 97, 98, 99, 100, 101, 102, 103, 104, 105, 106, 107, 108, 109, 110, 111, 112, 113, 114, 115, 116, 117, 118, 119, 120, 121] (by decide +kernel) (by decide +kernel)
set_option maxRecDepth 20000 in
theorem gX12_wantClause_X12_advance : GoodIn wsX12_wantClause (wsV RX12 137 RX12 yX12_advance wsX12_advance) := goodIn_app (goodIn_of _ (by decide +kernel)) ggX12_wantClause_X12_advance
set_option maxRecDepth 20000 in
theorem ggX12_wantClause_X12_wantNumber : GoodIn wsX12_wantClause wsX12_wantNumber := goodIn_r _ [58, 36, 5, 21, 49, 50, 9, 51, 30, 31, 32, 33, 34, 35, 22, 37, 38, 39, 40, 41, 42, 43, 44, 45, 46, 47, 48, 52, 53, 54, 83, 84, 85, 86, 87, 88, 89, 90, 91, 92, 93, 94, 95, 96, 97, 98, 99, 100, 101, 102, 103, 104, 105, 106, 107, 108, 109, 110, 111, 112, 113, 114, 115, 116, 117, 118, 119, 120, 121] (by decide +kernel) (by decide +kernel)
set_option maxRecDepth 20000 in
theorem gX12_wantClause_X12_wantNumber : GoodIn wsX12_wantClause (wsV RX12 146 RX12 yX12_wantNumber wsX12_wantNumber) := goodIn_app (goodIn_of _ (by decide +kernel)) ggX12_wantClause_X12_wantNumber
set_option maxRecDepth 20000 in
theorem ggX12_wantClause_X12_wantMark : GoodIn wsX12_wantClause wsX12_wantMark := goodIn_r _ [62, 5, 63, 64, 65, 9, 66, 21, 36, 30, 31, 32, 33, 34, 35, 22, 37, 38, 39, 40, 41, 42, 43, 44, 45, 46, 47, 48, 49, 50, 51, 52, 53, 54, 83, 84, 85, 86, 87, 88, 89, 90, 91, 92, 93, 94, 95, 96, 97, 98, 99, 100, 101, 102, 103, 104, 105, 106, 107, 108, 109, 110, 111, 112, 113, 114, 115, 116, 117, 118, 119, 120, 121] (by decide +kernel) (by decide +kernel)
set_option maxRecDepth 20000 in
theorem gX12_wantClause_X12_wantMark : GoodIn wsX12_wantClause (wsV RX12 152 RX12 yX12_wantMark wsX12_wantMark) := goodIn_app (goodIn_of _ (by decide +kernel)) ggX12_wantClause_X12_wantMark
theorem dX12_wantClause_0 : decode cX12_wantClause 0 = .ok (.aload_n 0, 1) := by decide +kernel
theorem dX12_wantClause_1 : decode cX12_wantClause 1 = .ok (.invokevirtual 162, 3) := by decide +kernel
theorem dX12_wantClause_4 : decode cX12_wantClause 4 = .ok (.ifCond .lt 14, 3) := by decide +kernel
theorem dX12_wantClause_7 : decode cX12_wantClause 7 = .ok (.aload_n 0, 1) := by decide +kernel
theorem dX12_wantClause_8 : decode cX12_wantClause 8 = .ok (.aload_n 0, 1) := by decide +kernel
theorem dX12_wantClause_9 : decode cX12_wantClause 9 = .ok (.invokevirtual 162, 3) := by decide +kernel
theorem dX12_wantClause_12 : decode cX12_wantClause 12 = .ok (.invokevirtual 166, 3) := by decide +kernel
theorem dX12_wantClause_15 : decode cX12_wantClause 15 = .ok (.goto 76, 3) := by decide +kernel
theorem dX12_wantClause_18 : decode cX12_wantClause 18 = .ok (.aload_n 0, 1) := by decide +kernel
theorem dX12_wantClause_19 : decode cX12_wantClause 19 = .ok (.ldc2_w 169, 3) := by decide +kernel
theorem dX12_wantClause_22 : decode cX12_wantClause 22 = .ok (.invokevirtual 119, 3) := by decide +kernel
theorem dX12_wantClause_25 : decode cX12_wantClause 25 = .ok (.ifCond .eq 10, 3) := by decide +kernel
theorem dX12_wantClause_28 : decode cX12_wantClause 28 = .ok (.aload_n 0, 1) := by decide +kernel
theorem dX12_wantClause_29 : decode cX12_wantClause 29 = .ok (.invokevirtual 171, 3) := by decide +kernel
theorem dX12_wantClause_32 : decode cX12_wantClause 32 = .ok (.goto 59, 3) := by decide +kernel
theorem dX12_wantClause_35 : decode cX12_wantClause 35 = .ok (.aload_n 0, 1) := by decide +kernel
theorem dX12_wantClause_36 : decode cX12_wantClause 36 = .ok (.ldc2_w 174, 3) := by decide +kernel
theorem dX12_wantClause_39 : decode cX12_wantClause 39 = .ok (.invokevirtual 119, 3) := by decide +kernel
theorem dX12_wantClause_42 : decode cX12_wantClause 42 = .ok (.ifCond .eq 10, 3) := by decide +kernel
theorem dX12_wantClause_45 : decode cX12_wantClause 45 = .ok (.aload_n 0, 1) := by decide +kernel
theorem dX12_wantClause_46 : decode cX12_wantClause 46 = .ok (.invokevirtual 176, 3) := by decide +kernel
theorem dX12_wantClause_49 : decode cX12_wantClause 49 = .ok (.goto 42, 3) := by decide +kernel
theorem dX12_wantClause_52 : decode cX12_wantClause 52 = .ok (.aload_n 0, 1) := by decide +kernel
theorem dX12_wantClause_53 : decode cX12_wantClause 53 = .ok (.ldc2_w 179, 3) := by decide +kernel
theorem dX12_wantClause_56 : decode cX12_wantClause 56 = .ok (.invokevirtual 119, 3) := by decide +kernel
theorem dX12_wantClause_59 : decode cX12_wantClause 59 = .ok (.ifCond .eq 27, 3) := by decide +kernel
theorem dX12_wantClause_62 : decode cX12_wantClause 62 = .ok (.aload_n 0, 1) := by decide +kernel
theorem dX12_wantClause_63 : decode cX12_wantClause 63 = .ok (.invokevirtual 137, 3) := by decide +kernel
theorem dX12_wantClause_66 : decode cX12_wantClause 66 = .ok (.aload_n 0, 1) := by decide +kernel
theorem dX12_wantClause_67 : decode cX12_wantClause 67 = .ok (.aload_n 0, 1) := by decide +kernel
theorem dX12_wantClause_68 : decode cX12_wantClause 68 = .ok (.iconst 0, 1) := by decide +kernel
theorem dX12_wantClause_69 : decode cX12_wantClause 69 = .ok (.bipush 50, 2) := by decide +kernel
theorem dX12_wantClause_71 : decode cX12_wantClause 71 = .ok (.invokevirtual 146, 3) := by decide +kernel
theorem dX12_wantClause_74 : decode cX12_wantClause 74 = .ok (.putfield 181, 3) := by decide +kernel
theorem dX12_wantClause_77 : decode cX12_wantClause 77 = .ok (.aload_n 0, 1) := by decide +kernel
theorem dX12_wantClause_78 : decode cX12_wantClause 78 = .ok (.bipush 59, 2) := by decide +kernel
theorem dX12_wantClause_80 : decode cX12_wantClause 80 = .ok (.invokevirtual 152, 3) := by decide +kernel
theorem dX12_wantClause_83 : decode cX12_wantClause 83 = .ok (.goto 8, 3) := by decide +kernel
theorem dX12_wantClause_86 : decode cX12_wantClause 86 = .ok (.aload_n 0, 1) := by decide +kernel
theorem dX12_wantClause_87 : decode cX12_wantClause 87 = .ok (.iconst 0, 1) := by decide +kernel
theorem dX12_wantClause_88 : decode cX12_wantClause 88 = .ok (.putfield 133, 3) := by decide +kernel
theorem dX12_wantClause_91 : decode cX12_wantClause 91 = .ok (.return_, 1) := by decide +kernel
set_option maxRecDepth 20000 in
theorem ggX12_quarry_X12_advance : GoodIn wsX12_quarry wsX12_advance := goodIn_r _ [19, 1, 9, 7, 20, 21, 22, 23, 24, 25, 26, 27, 18, 28, 8, 29, 30, 31, 32, 33, 34, 35, 36, 37, 38, 100, 101, 102, 103, 104, 105, 106, 107, 108, 109, 110, 111, 112, 113, 114, 115, 116, 117, 118, 119, 120, 121, 122, 123, 124, 125, 126, 127, 128, 129, 130, 131, 132, 133, 134, 135, 136, 137, 138] (by decide +kernel) (by decide +kernel)
set_option maxRecDepth 20000 in
theorem gX12_quarry_X12_advance : GoodIn wsX12_quarry (wsV RX12 137 RX12 yX12_advance wsX12_advance) := goodIn_app (goodIn_of _ (by decide +kernel)) ggX12_quarry_X12_advance
set_option maxRecDepth 20000 in
theorem ggX12_quarry_X12_wantClause : GoodIn wsX12_quarry wsX12_wantClause := goodIn_r _ [42, 43, 44, 45, 4, 2, 46, 47, 48, 18, 49, 50, 51, 52, 53, 54, 55, 56, 57, 58, 59, 7, 20, 60, 61, 62, 63, 3, 64, 13, 15, 16, 17, 19, 1, 9, 21, 22, 23, 24, 25, 26, 27, 28, 8, 29, 30, 31, 32, 33, 34, 35, 36, 37, 38, 65, 66, 67, 68, 69, 70, 71, 72, 73, 74, 75, 76, 77, 78, 79, 80, 81, 82, 83, 84, 85, 5, 86, 87, 88, 89, 90, 6, 100, 101, 102, 103, 104, 105, 106, 107, 108, 109, 110, 111, 112, 113, 114, 115, 116, 117, 118, 119, 120, 121, 122, 123, 124, 125, 126, 127, 128, 129, 130, 131, 132, 133, 134, 135, 136, 137, 138] (by decide +kernel) (by decide +kernel)
set_option maxRecDepth 20000 in
theorem gX12_quarry_X12_wantClause : GoodIn wsX12_quarry (wsV RX12 184 RX12 yX12_wantClause wsX12_wantClause) := goodIn_app (goodIn_of _ (by decide +kernel)) ggX12_quarry_X12_wantClause
set_option maxRecDepth 20000 in
theorem ggX12_quarry_X12_makes : GoodIn wsX12_quarry wsX12_makes := goodIn_r _ [94, 95, 96, 97, 18, 98, 12, 99, 100, 101, 102, 103, 104, 105, 106, 107, 108, 109, 110, 111, 112, 113, 114, 115, 116, 117, 118, 119, 120, 121, 122, 123, 124, 125, 126, 127, 128, 129, 130, 131, 132, 133, 134, 135, 136, 137, 138] (by decide +kernel) (by decide +kernel)
set_option maxRecDepth 20000 in
theorem gX12_quarry_X12_makes : GoodIn wsX12_quarry (wsV RX12 187 RX12 yX12_makes wsX12_makes) := goodIn_app (goodIn_of _ (by decide +kernel)) ggX12_quarry_X12_makes
theorem dX12_quarry_0 : decode cX12_quarry 0 = .ok (.aload_n 0, 1) := by decide +kernel
theorem dX12_quarry_1 : decode cX12_quarry 1 = .ok (.iconst 0, 1) := by decide +kernel
theorem dX12_quarry_2 : decode cX12_quarry 2 = .ok (.putfield 84, 3) := by decide +kernel
theorem dX12_quarry_5 : decode cX12_quarry 5 = .ok (.aload_n 0, 1) := by decide +kernel
theorem dX12_quarry_6 : decode cX12_quarry 6 = .ok (.iconst 1, 1) := by decide +kernel
theorem dX12_quarry_7 : decode cX12_quarry 7 = .ok (.putfield 133, 3) := by decide +kernel
theorem dX12_quarry_10 : decode cX12_quarry 10 = .ok (.aload_n 0, 1) := by decide +kernel
theorem dX12_quarry_11 : decode cX12_quarry 11 = .ok (.iconst 0, 1) := by decide +kernel
theorem dX12_quarry_12 : decode cX12_quarry 12 = .ok (.putfield 143, 3) := by decide +kernel
theorem dX12_quarry_15 : decode cX12_quarry 15 = .ok (.aload_n 0, 1) := by decide +kernel
theorem dX12_quarry_16 : decode cX12_quarry 16 = .ok (.iconst 0, 1) := by decide +kernel
theorem dX12_quarry_17 : decode cX12_quarry 17 = .ok (.putfield 181, 3) := by decide +kernel
theorem dX12_quarry_20 : decode cX12_quarry 20 = .ok (.iconst 0, 1) := by decide +kernel
theorem dX12_quarry_21 : decode cX12_quarry 21 = .ok (.istore_n 1, 1) := by decide +kernel
theorem dX12_quarry_22 : decode cX12_quarry 22 = .ok (.iload_n 1, 1) := by decide +kernel
theorem dX12_quarry_23 : decode cX12_quarry 23 = .ok (.sipush 200, 3) := by decide +kernel
theorem dX12_quarry_26 : decode cX12_quarry 26 = .ok (.if_icmp .ge 16, 3) := by decide +kernel
theorem dX12_quarry_29 : decode cX12_quarry 29 = .ok (.aload_n 0, 1) := by decide +kernel
theorem dX12_quarry_30 : decode cX12_quarry 30 = .ok (.getfield 26, 3) := by decide +kernel
theorem dX12_quarry_33 : decode cX12_quarry 33 = .ok (.iload_n 1, 1) := by decide +kernel
theorem dX12_quarry_34 : decode cX12_quarry 34 = .ok (.iconst 0, 1) := by decide +kernel
theorem dX12_quarry_35 : decode cX12_quarry 35 = .ok (.iastore, 1) := by decide +kernel
theorem dX12_quarry_36 : decode cX12_quarry 36 = .ok (.iinc 1 1, 3) := by decide +kernel
theorem dX12_quarry_39 : decode cX12_quarry 39 = .ok (.goto (-17), 3) := by decide +kernel
theorem dX12_quarry_42 : decode cX12_quarry 42 = .ok (.iconst 0, 1) := by decide +kernel
theorem dX12_quarry_43 : decode cX12_quarry 43 = .ok (.istore_n 1, 1) := by decide +kernel
theorem dX12_quarry_44 : decode cX12_quarry 44 = .ok (.iload_n 1, 1) := by decide +kernel
theorem dX12_quarry_45 : decode cX12_quarry 45 = .ok (.bipush 12, 2) := by decide +kernel
theorem dX12_quarry_47 : decode cX12_quarry 47 = .ok (.if_icmp .ge 16, 3) := by decide +kernel
theorem dX12_quarry_50 : decode cX12_quarry 50 = .ok (.aload_n 0, 1) := by decide +kernel
theorem dX12_quarry_51 : decode cX12_quarry 51 = .ok (.getfield 29, 3) := by decide +kernel
theorem dX12_quarry_54 : decode cX12_quarry 54 = .ok (.iload_n 1, 1) := by decide +kernel
theorem dX12_quarry_55 : decode cX12_quarry 55 = .ok (.iconst 1, 1) := by decide +kernel
theorem dX12_quarry_56 : decode cX12_quarry 56 = .ok (.iastore, 1) := by decide +kernel
theorem dX12_quarry_57 : decode cX12_quarry 57 = .ok (.iinc 1 1, 3) := by decide +kernel
theorem dX12_quarry_60 : decode cX12_quarry 60 = .ok (.goto (-16), 3) := by decide +kernel
theorem dX12_quarry_63 : decode cX12_quarry 63 = .ok (.aload_n 0, 1) := by decide +kernel
theorem dX12_quarry_64 : decode cX12_quarry 64 = .ok (.invokevirtual 137, 3) := by decide +kernel
theorem dX12_quarry_67 : decode cX12_quarry 67 = .ok (.aload_n 0, 1) := by decide +kernel
theorem dX12_quarry_68 : decode cX12_quarry 68 = .ok (.getfield 133, 3) := by decide +kernel
theorem dX12_quarry_71 : decode cX12_quarry 71 = .ok (.ifCond .eq 17, 3) := by decide +kernel
theorem dX12_quarry_74 : decode cX12_quarry 74 = .ok (.aload_n 0, 1) := by decide +kernel
theorem dX12_quarry_75 : decode cX12_quarry 75 = .ok (.getfield 101, 3) := by decide +kernel
theorem dX12_quarry_78 : decode cX12_quarry 78 = .ok (.ifCond .eq 10, 3) := by decide +kernel
theorem dX12_quarry_81 : decode cX12_quarry 81 = .ok (.aload_n 0, 1) := by decide +kernel
theorem dX12_quarry_82 : decode cX12_quarry 82 = .ok (.invokevirtual 184, 3) := by decide +kernel
theorem dX12_quarry_85 : decode cX12_quarry 85 = .ok (.goto (-18), 3) := by decide +kernel
theorem dX12_quarry_88 : decode cX12_quarry 88 = .ok (.aload_n 0, 1) := by decide +kernel
theorem dX12_quarry_89 : decode cX12_quarry 89 = .ok (.iconst 0, 1) := by decide +kernel
theorem dX12_quarry_90 : decode cX12_quarry 90 = .ok (.putfield 79, 3) := by decide +kernel
theorem dX12_quarry_93 : decode cX12_quarry 93 = .ok (.aload_n 0, 1) := by decide +kernel
theorem dX12_quarry_94 : decode cX12_quarry 94 = .ok (.getfield 133, 3) := by decide +kernel
theorem dX12_quarry_97 : decode cX12_quarry 97 = .ok (.ifCond .ne 11, 3) := by decide +kernel
theorem dX12_quarry_100 : decode cX12_quarry 100 = .ok (.bipush (-100), 2) := by decide +kernel
theorem dX12_quarry_102 : decode cX12_quarry 102 = .ok (.aload_n 0, 1) := by decide +kernel
theorem dX12_quarry_103 : decode cX12_quarry 103 = .ok (.getfield 87, 3) := by decide +kernel
theorem dX12_quarry_106 : decode cX12_quarry 106 = .ok (.isub, 1) := by decide +kernel
theorem dX12_quarry_107 : decode cX12_quarry 107 = .ok (.ireturn, 1) := by decide +kernel
theorem dX12_quarry_108 : decode cX12_quarry 108 = .ok (.iconst 0, 1) := by decide +kernel
theorem dX12_quarry_109 : decode cX12_quarry 109 = .ok (.istore_n 1, 1) := by decide +kernel
theorem dX12_quarry_110 : decode cX12_quarry 110 = .ok (.iload_n 1, 1) := by decide +kernel
theorem dX12_quarry_111 : decode cX12_quarry 111 = .ok (.sipush 200, 3) := by decide +kernel
theorem dX12_quarry_114 : decode cX12_quarry 114 = .ok (.if_icmp .ge 21, 3) := by decide +kernel
theorem dX12_quarry_117 : decode cX12_quarry 117 = .ok (.aload_n 0, 1) := by decide +kernel
theorem dX12_quarry_118 : decode cX12_quarry 118 = .ok (.getfield 7, 3) := by decide +kernel
theorem dX12_quarry_121 : decode cX12_quarry 121 = .ok (.iload_n 1, 1) := by decide +kernel
theorem dX12_quarry_122 : decode cX12_quarry 122 = .ok (.aload_n 0, 1) := by decide +kernel
theorem dX12_quarry_123 : decode cX12_quarry 123 = .ok (.getfield 26, 3) := by decide +kernel
theorem dX12_quarry_126 : decode cX12_quarry 126 = .ok (.iload_n 1, 1) := by decide +kernel
theorem dX12_quarry_127 : decode cX12_quarry 127 = .ok (.iaload, 1) := by decide +kernel
theorem dX12_quarry_128 : decode cX12_quarry 128 = .ok (.iastore, 1) := by decide +kernel
theorem dX12_quarry_129 : decode cX12_quarry 129 = .ok (.iinc 1 1, 3) := by decide +kernel
theorem dX12_quarry_132 : decode cX12_quarry 132 = .ok (.goto (-22), 3) := by decide +kernel
theorem dX12_quarry_135 : decode cX12_quarry 135 = .ok (.iconst 0, 1) := by decide +kernel
theorem dX12_quarry_136 : decode cX12_quarry 136 = .ok (.istore_n 1, 1) := by decide +kernel
theorem dX12_quarry_137 : decode cX12_quarry 137 = .ok (.iload_n 1, 1) := by decide +kernel
theorem dX12_quarry_138 : decode cX12_quarry 138 = .ok (.bipush 12, 2) := by decide +kernel
theorem dX12_quarry_140 : decode cX12_quarry 140 = .ok (.if_icmp .ge 21, 3) := by decide +kernel
theorem dX12_quarry_143 : decode cX12_quarry 143 = .ok (.aload_n 0, 1) := by decide +kernel
theorem dX12_quarry_144 : decode cX12_quarry 144 = .ok (.getfield 13, 3) := by decide +kernel
theorem dX12_quarry_147 : decode cX12_quarry 147 = .ok (.iload_n 1, 1) := by decide +kernel
theorem dX12_quarry_148 : decode cX12_quarry 148 = .ok (.aload_n 0, 1) := by decide +kernel
theorem dX12_quarry_149 : decode cX12_quarry 149 = .ok (.getfield 29, 3) := by decide +kernel
theorem dX12_quarry_152 : decode cX12_quarry 152 = .ok (.iload_n 1, 1) := by decide +kernel
theorem dX12_quarry_153 : decode cX12_quarry 153 = .ok (.iaload, 1) := by decide +kernel
theorem dX12_quarry_154 : decode cX12_quarry 154 = .ok (.iastore, 1) := by decide +kernel
theorem dX12_quarry_155 : decode cX12_quarry 155 = .ok (.iinc 1 1, 3) := by decide +kernel
theorem dX12_quarry_158 : decode cX12_quarry 158 = .ok (.goto (-21), 3) := by decide +kernel
theorem dX12_quarry_161 : decode cX12_quarry 161 = .ok (.aload_n 0, 1) := by decide +kernel
theorem dX12_quarry_162 : decode cX12_quarry 162 = .ok (.getfield 16, 3) := by decide +kernel
theorem dX12_quarry_165 : decode cX12_quarry 165 = .ok (.iconst 0, 1) := by decide +kernel
theorem dX12_quarry_166 : decode cX12_quarry 166 = .ok (.aload_n 0, 1) := by decide +kernel
theorem dX12_quarry_167 : decode cX12_quarry 167 = .ok (.getfield 181, 3) := by decide +kernel
theorem dX12_quarry_170 : decode cX12_quarry 170 = .ok (.iastore, 1) := by decide +kernel
theorem dX12_quarry_171 : decode cX12_quarry 171 = .ok (.aload_n 0, 1) := by decide +kernel
theorem dX12_quarry_172 : decode cX12_quarry 172 = .ok (.getfield 16, 3) := by decide +kernel
theorem dX12_quarry_175 : decode cX12_quarry 175 = .ok (.iconst 1, 1) := by decide +kernel
theorem dX12_quarry_176 : decode cX12_quarry 176 = .ok (.aload_n 0, 1) := by decide +kernel
theorem dX12_quarry_177 : decode cX12_quarry 177 = .ok (.getfield 143, 3) := by decide +kernel
theorem dX12_quarry_180 : decode cX12_quarry 180 = .ok (.iastore, 1) := by decide +kernel
theorem dX12_quarry_181 : decode cX12_quarry 181 = .ok (.iconst 0, 1) := by decide +kernel
theorem dX12_quarry_182 : decode cX12_quarry 182 = .ok (.istore_n 1, 1) := by decide +kernel
theorem dX12_quarry_183 : decode cX12_quarry 183 = .ok (.iload_n 1, 1) := by decide +kernel
theorem dX12_quarry_184 : decode cX12_quarry 184 = .ok (.aload_n 0, 1) := by decide +kernel
theorem dX12_quarry_185 : decode cX12_quarry 185 = .ok (.getfield 143, 3) := by decide +kernel
theorem dX12_quarry_188 : decode cX12_quarry 188 = .ok (.if_icmp .ge 42, 3) := by decide +kernel
theorem dX12_quarry_191 : decode cX12_quarry 191 = .ok (.aload_n 0, 1) := by decide +kernel
theorem dX12_quarry_192 : decode cX12_quarry 192 = .ok (.iload_n 1, 1) := by decide +kernel
theorem dX12_quarry_193 : decode cX12_quarry 193 = .ok (.aload_n 0, 1) := by decide +kernel
theorem dX12_quarry_194 : decode cX12_quarry 194 = .ok (.getfield 32, 3) := by decide +kernel
theorem dX12_quarry_197 : decode cX12_quarry 197 = .ok (.iconst 3, 1) := by decide +kernel
theorem dX12_quarry_198 : decode cX12_quarry 198 = .ok (.iload_n 1, 1) := by decide +kernel
theorem dX12_quarry_199 : decode cX12_quarry 199 = .ok (.imul, 1) := by decide +kernel
theorem dX12_quarry_200 : decode cX12_quarry 200 = .ok (.iaload, 1) := by decide +kernel
theorem dX12_quarry_201 : decode cX12_quarry 201 = .ok (.aload_n 0, 1) := by decide +kernel
theorem dX12_quarry_202 : decode cX12_quarry 202 = .ok (.getfield 32, 3) := by decide +kernel
theorem dX12_quarry_205 : decode cX12_quarry 205 = .ok (.iconst 3, 1) := by decide +kernel
theorem dX12_quarry_206 : decode cX12_quarry 206 = .ok (.iload_n 1, 1) := by decide +kernel
theorem dX12_quarry_207 : decode cX12_quarry 207 = .ok (.imul, 1) := by decide +kernel
theorem dX12_quarry_208 : decode cX12_quarry 208 = .ok (.iconst 1, 1) := by decide +kernel
theorem dX12_quarry_209 : decode cX12_quarry 209 = .ok (.iadd, 1) := by decide +kernel
theorem dX12_quarry_210 : decode cX12_quarry 210 = .ok (.iaload, 1) := by decide +kernel
theorem dX12_quarry_211 : decode cX12_quarry 211 = .ok (.aload_n 0, 1) := by decide +kernel
theorem dX12_quarry_212 : decode cX12_quarry 212 = .ok (.getfield 32, 3) := by decide +kernel
theorem dX12_quarry_215 : decode cX12_quarry 215 = .ok (.iconst 3, 1) := by decide +kernel
theorem dX12_quarry_216 : decode cX12_quarry 216 = .ok (.iload_n 1, 1) := by decide +kernel
theorem dX12_quarry_217 : decode cX12_quarry 217 = .ok (.imul, 1) := by decide +kernel
theorem dX12_quarry_218 : decode cX12_quarry 218 = .ok (.iconst 2, 1) := by decide +kernel
theorem dX12_quarry_219 : decode cX12_quarry 219 = .ok (.iadd, 1) := by decide +kernel
theorem dX12_quarry_220 : decode cX12_quarry 220 = .ok (.iaload, 1) := by decide +kernel
theorem dX12_quarry_221 : decode cX12_quarry 221 = .ok (.invokevirtual 187, 3) := by decide +kernel
theorem dX12_quarry_224 : decode cX12_quarry 224 = .ok (.iinc 1 1, 3) := by decide +kernel
theorem dX12_quarry_227 : decode cX12_quarry 227 = .ok (.goto (-44), 3) := by decide +kernel
theorem dX12_quarry_230 : decode cX12_quarry 230 = .ok (.aload_n 0, 1) := by decide +kernel
theorem dX12_quarry_231 : decode cX12_quarry 231 = .ok (.iconst 0, 1) := by decide +kernel
theorem dX12_quarry_232 : decode cX12_quarry 232 = .ok (.putfield 191, 3) := by decide +kernel
theorem dX12_quarry_235 : decode cX12_quarry 235 = .ok (.aload_n 0, 1) := by decide +kernel
theorem dX12_quarry_236 : decode cX12_quarry 236 = .ok (.getfield 143, 3) := by decide +kernel
theorem dX12_quarry_239 : decode cX12_quarry 239 = .ok (.ireturn, 1) := by decide +kernel
set_option maxRecDepth 20000 in
theorem ggX12_makes_X12_becomes : GoodIn wsX12_makes wsX12_becomes := goodIn_r _ [5, 6, 7, 8, 9, 10, 11, 12, 13, 14, 15, 16, 17, 18, 19, 20, 21, 22, 23, 24, 25, 26, 27, 28, 29, 30, 31, 32, 33, 34, 35, 36, 37, 38, 39, 40, 41, 42, 43, 44, 45, 46] (by decide +kernel) (by decide +kernel)
set_option maxRecDepth 20000 in
theorem gX12_makes_X12_becomes : GoodIn wsX12_makes (wsV RX12 194 RX12 yX12_becomes wsX12_becomes) := goodIn_app (goodIn_of _ (by decide +kernel)) ggX12_makes_X12_becomes
theorem dX12_makes_0 : decode cX12_makes 0 = .ok (.aload_n 0, 1) := by decide +kernel
theorem dX12_makes_1 : decode cX12_makes 1 = .ok (.iload_n 1, 1) := by decide +kernel
theorem dX12_makes_2 : decode cX12_makes 2 = .ok (.iconst 0, 1) := by decide +kernel
theorem dX12_makes_3 : decode cX12_makes 3 = .ok (.iload_n 2, 1) := by decide +kernel
theorem dX12_makes_4 : decode cX12_makes 4 = .ok (.invokevirtual 194, 3) := by decide +kernel
theorem dX12_makes_7 : decode cX12_makes 7 = .ok (.aload_n 0, 1) := by decide +kernel
theorem dX12_makes_8 : decode cX12_makes 8 = .ok (.iload_n 1, 1) := by decide +kernel
theorem dX12_makes_9 : decode cX12_makes 9 = .ok (.iconst 1, 1) := by decide +kernel
theorem dX12_makes_10 : decode cX12_makes 10 = .ok (.iload_n 3, 1) := by decide +kernel
theorem dX12_makes_11 : decode cX12_makes 11 = .ok (.invokevirtual 194, 3) := by decide +kernel
theorem dX12_makes_14 : decode cX12_makes 14 = .ok (.aload_n 0, 1) := by decide +kernel
theorem dX12_makes_15 : decode cX12_makes 15 = .ok (.iload_n 1, 1) := by decide +kernel
theorem dX12_makes_16 : decode cX12_makes 16 = .ok (.iconst 2, 1) := by decide +kernel
theorem dX12_makes_17 : decode cX12_makes 17 = .ok (.iload 4, 2) := by decide +kernel
theorem dX12_makes_19 : decode cX12_makes 19 = .ok (.invokevirtual 194, 3) := by decide +kernel
theorem dX12_makes_22 : decode cX12_makes 22 = .ok (.iconst 0, 1) := by decide +kernel
theorem dX12_makes_23 : decode cX12_makes 23 = .ok (.istore 5, 2) := by decide +kernel
theorem dX12_makes_25 : decode cX12_makes 25 = .ok (.iload 5, 2) := by decide +kernel
theorem dX12_makes_27 : decode cX12_makes 27 = .ok (.bipush 16, 2) := by decide +kernel
theorem dX12_makes_29 : decode cX12_makes 29 = .ok (.if_icmp .ge 20, 3) := by decide +kernel
theorem dX12_makes_32 : decode cX12_makes 32 = .ok (.aload_n 0, 1) := by decide +kernel
theorem dX12_makes_33 : decode cX12_makes 33 = .ok (.iload_n 1, 1) := by decide +kernel
theorem dX12_makes_34 : decode cX12_makes 34 = .ok (.iconst 3, 1) := by decide +kernel
theorem dX12_makes_35 : decode cX12_makes 35 = .ok (.iload 5, 2) := by decide +kernel
theorem dX12_makes_37 : decode cX12_makes 37 = .ok (.iadd, 1) := by decide +kernel
theorem dX12_makes_38 : decode cX12_makes 38 = .ok (.bipush (-9), 2) := by decide +kernel
theorem dX12_makes_40 : decode cX12_makes 40 = .ok (.invokevirtual 194, 3) := by decide +kernel
theorem dX12_makes_43 : decode cX12_makes 43 = .ok (.iinc 5 1, 3) := by decide +kernel
theorem dX12_makes_46 : decode cX12_makes 46 = .ok (.goto (-21), 3) := by decide +kernel
theorem dX12_makes_49 : decode cX12_makes 49 = .ok (.return_, 1) := by decide +kernel
set_option maxRecDepth 20000 in
theorem ggX12_view_X12_isPlace : GoodIn wsX12_view wsX12_isPlace := goodIn_r _ [5, 6, 7, 4, 8] (by decide +kernel) (by decide +kernel)
set_option maxRecDepth 20000 in
theorem gX12_view_X12_isPlace : GoodIn wsX12_view (va_wsS RX12 198 yX12_isPlace wsX12_isPlace) := goodIn_app (goodIn_of _ (by decide +kernel)) ggX12_view_X12_isPlace
set_option maxRecDepth 20000 in
theorem ggX12_view_X12_isDay : GoodIn wsX12_view wsX12_isDay := goodIn_r _ [11, 6, 7, 4, 8] (by decide +kernel) (by decide +kernel)
set_option maxRecDepth 20000 in
theorem gX12_view_X12_isDay : GoodIn wsX12_view (va_wsS RX12 201 yX12_isDay wsX12_isDay) := goodIn_app (goodIn_of _ (by decide +kernel)) ggX12_view_X12_isDay
set_option maxRecDepth 20000 in
theorem ggX12_view_X12_in : GoodIn wsX12_view wsX12_in := goodIn_r _ [8] (by decide +kernel) (by decide +kernel)
set_option maxRecDepth 20000 in
theorem gX12_view_X12_in : GoodIn wsX12_view (va_wsS RX12 72 yX12_in wsX12_in) := goodIn_app (goodIn_of _ (by decide +kernel)) ggX12_view_X12_in
theorem dX12_view_0 : decode cX12_view 0 = .ok (.iload_n 1, 1) := by decide +kernel
theorem dX12_view_1 : decode cX12_view 1 = .ok (.invokestatic 198, 3) := by decide +kernel
theorem dX12_view_4 : decode cX12_view 4 = .ok (.ifCond .eq 20, 3) := by decide +kernel
theorem dX12_view_7 : decode cX12_view 7 = .ok (.iload_n 2, 1) := by decide +kernel
theorem dX12_view_8 : decode cX12_view 8 = .ok (.invokestatic 201, 3) := by decide +kernel
theorem dX12_view_11 : decode cX12_view 11 = .ok (.ifCond .eq 13, 3) := by decide +kernel
theorem dX12_view_14 : decode cX12_view 14 = .ok (.iload_n 3, 1) := by decide +kernel
theorem dX12_view_15 : decode cX12_view 15 = .ok (.iconst 0, 1) := by decide +kernel
theorem dX12_view_16 : decode cX12_view 16 = .ok (.bipush 99, 2) := by decide +kernel
theorem dX12_view_18 : decode cX12_view 18 = .ok (.invokestatic 72, 3) := by decide +kernel
theorem dX12_view_21 : decode cX12_view 21 = .ok (.ifCond .ne 5, 3) := by decide +kernel
theorem dX12_view_24 : decode cX12_view 24 = .ok (.iconst (-1), 1) := by decide +kernel
theorem dX12_view_25 : decode cX12_view 25 = .ok (.ireturn, 1) := by decide +kernel
theorem dX12_view_26 : decode cX12_view 26 = .ok (.aload_n 0, 1) := by decide +kernel
theorem dX12_view_27 : decode cX12_view 27 = .ok (.getfield 7, 3) := by decide +kernel
theorem dX12_view_30 : decode cX12_view 30 = .ok (.bipush 50, 2) := by decide +kernel
theorem dX12_view_32 : decode cX12_view 32 = .ok (.iload_n 1, 1) := by decide +kernel
theorem dX12_view_33 : decode cX12_view 33 = .ok (.imul, 1) := by decide +kernel
theorem dX12_view_34 : decode cX12_view 34 = .ok (.iload_n 2, 1) := by decide +kernel
theorem dX12_view_35 : decode cX12_view 35 = .ok (.iadd, 1) := by decide +kernel
theorem dX12_view_36 : decode cX12_view 36 = .ok (.iaload, 1) := by decide +kernel
theorem dX12_view_37 : decode cX12_view 37 = .ok (.istore 4, 2) := by decide +kernel
theorem dX12_view_39 : decode cX12_view 39 = .ok (.aload_n 0, 1) := by decide +kernel
theorem dX12_view_40 : decode cX12_view 40 = .ok (.getfield 7, 3) := by decide +kernel
theorem dX12_view_43 : decode cX12_view 43 = .ok (.bipush 50, 2) := by decide +kernel
theorem dX12_view_45 : decode cX12_view 45 = .ok (.iload_n 1, 1) := by decide +kernel
theorem dX12_view_46 : decode cX12_view 46 = .ok (.imul, 1) := by decide +kernel
theorem dX12_view_47 : decode cX12_view 47 = .ok (.iload_n 2, 1) := by decide +kernel
theorem dX12_view_48 : decode cX12_view 48 = .ok (.iadd, 1) := by decide +kernel
theorem dX12_view_49 : decode cX12_view 49 = .ok (.iload_n 3, 1) := by decide +kernel
theorem dX12_view_50 : decode cX12_view 50 = .ok (.iastore, 1) := by decide +kernel
theorem dX12_view_51 : decode cX12_view 51 = .ok (.iload 4, 2) := by decide +kernel
theorem dX12_view_53 : decode cX12_view 53 = .ok (.ireturn, 1) := by decide +kernel
set_option maxRecDepth 20000 in
theorem ggX12_viewOf_X12_isPlace : GoodIn wsX12_viewOf wsX12_isPlace := goodIn_r _ [5, 6, 7, 4, 8] (by decide +kernel) (by decide +kernel)
set_option maxRecDepth 20000 in
theorem gX12_viewOf_X12_isPlace : GoodIn wsX12_viewOf (va_wsS RX12 198 yX12_isPlace wsX12_isPlace) := goodIn_app (goodIn_of _ (by decide +kernel)) ggX12_viewOf_X12_isPlace
set_option maxRecDepth 20000 in
theorem ggX12_viewOf_X12_isDay : GoodIn wsX12_viewOf wsX12_isDay := goodIn_r _ [11, 6, 7, 4, 8] (by decide +kernel) (by decide +kernel)
set_option maxRecDepth 20000 in
theorem gX12_viewOf_X12_isDay : GoodIn wsX12_viewOf (va_wsS RX12 201 yX12_isDay wsX12_isDay) := goodIn_app (goodIn_of _ (by decide +kernel)) ggX12_viewOf_X12_isDay
theorem dX12_viewOf_0 : decode cX12_viewOf 0 = .ok (.iload_n 1, 1) := by decide +kernel
theorem dX12_viewOf_1 : decode cX12_viewOf 1 = .ok (.invokestatic 198, 3) := by decide +kernel
theorem dX12_viewOf_4 : decode cX12_viewOf 4 = .ok (.ifCond .eq 24, 3) := by decide +kernel
theorem dX12_viewOf_7 : decode cX12_viewOf 7 = .ok (.iload_n 2, 1) := by decide +kernel
theorem dX12_viewOf_8 : decode cX12_viewOf 8 = .ok (.invokestatic 201, 3) := by decide +kernel
theorem dX12_viewOf_11 : decode cX12_viewOf 11 = .ok (.ifCond .eq 17, 3) := by decide +kernel
theorem dX12_viewOf_14 : decode cX12_viewOf 14 = .ok (.aload_n 0, 1) := by decide +kernel
theorem dX12_viewOf_15 : decode cX12_viewOf 15 = .ok (.getfield 7, 3) := by decide +kernel
theorem dX12_viewOf_18 : decode cX12_viewOf 18 = .ok (.bipush 50, 2) := by decide +kernel
theorem dX12_viewOf_20 : decode cX12_viewOf 20 = .ok (.iload_n 1, 1) := by decide +kernel
theorem dX12_viewOf_21 : decode cX12_viewOf 21 = .ok (.imul, 1) := by decide +kernel
theorem dX12_viewOf_22 : decode cX12_viewOf 22 = .ok (.iload_n 2, 1) := by decide +kernel
theorem dX12_viewOf_23 : decode cX12_viewOf 23 = .ok (.iadd, 1) := by decide +kernel
theorem dX12_viewOf_24 : decode cX12_viewOf 24 = .ok (.iaload, 1) := by decide +kernel
theorem dX12_viewOf_25 : decode cX12_viewOf 25 = .ok (.goto 4, 3) := by decide +kernel
theorem dX12_viewOf_28 : decode cX12_viewOf 28 = .ok (.iconst (-1), 1) := by decide +kernel
theorem dX12_viewOf_29 : decode cX12_viewOf 29 = .ok (.ireturn, 1) := by decide +kernel
set_option maxRecDepth 20000 in
theorem ggX12_love_X12_isLooker : GoodIn wsX12_love wsX12_isLooker := goodIn_r _ [5, 6, 7, 4, 8] (by decide +kernel) (by decide +kernel)
set_option maxRecDepth 20000 in
theorem gX12_love_X12_isLooker : GoodIn wsX12_love (va_wsS RX12 204 yX12_isLooker wsX12_isLooker) := goodIn_app (goodIn_of _ (by decide +kernel)) ggX12_love_X12_isLooker
set_option maxRecDepth 20000 in
theorem ggX12_love_X12_isPlace : GoodIn wsX12_love wsX12_isPlace := goodIn_r _ [11, 6, 7, 4, 8] (by decide +kernel) (by decide +kernel)
set_option maxRecDepth 20000 in
theorem gX12_love_X12_isPlace : GoodIn wsX12_love (va_wsS RX12 198 yX12_isPlace wsX12_isPlace) := goodIn_app (goodIn_of _ (by decide +kernel)) ggX12_love_X12_isPlace
set_option maxRecDepth 20000 in
theorem ggX12_love_X12_in : GoodIn wsX12_love wsX12_in := goodIn_r _ [8] (by decide +kernel) (by decide +kernel)
set_option maxRecDepth 20000 in
theorem gX12_love_X12_in : GoodIn wsX12_love (va_wsS RX12 72 yX12_in wsX12_in) := goodIn_app (goodIn_of _ (by decide +kernel)) ggX12_love_X12_in
theorem dX12_love_0 : decode cX12_love 0 = .ok (.iload_n 1, 1) := by decide +kernel
theorem dX12_love_1 : decode cX12_love 1 = .ok (.invokestatic 204, 3) := by decide +kernel
theorem dX12_love_4 : decode cX12_love 4 = .ok (.ifCond .eq 20, 3) := by decide +kernel
theorem dX12_love_7 : decode cX12_love 7 = .ok (.iload_n 2, 1) := by decide +kernel
theorem dX12_love_8 : decode cX12_love 8 = .ok (.invokestatic 198, 3) := by decide +kernel
theorem dX12_love_11 : decode cX12_love 11 = .ok (.ifCond .eq 13, 3) := by decide +kernel
theorem dX12_love_14 : decode cX12_love 14 = .ok (.iload_n 3, 1) := by decide +kernel
theorem dX12_love_15 : decode cX12_love 15 = .ok (.iconst 0, 1) := by decide +kernel
theorem dX12_love_16 : decode cX12_love 16 = .ok (.bipush 9, 2) := by decide +kernel
theorem dX12_love_18 : decode cX12_love 18 = .ok (.invokestatic 72, 3) := by decide +kernel
theorem dX12_love_21 : decode cX12_love 21 = .ok (.ifCond .ne 5, 3) := by decide +kernel
theorem dX12_love_24 : decode cX12_love 24 = .ok (.iconst (-1), 1) := by decide +kernel
theorem dX12_love_25 : decode cX12_love 25 = .ok (.ireturn, 1) := by decide +kernel
theorem dX12_love_26 : decode cX12_love 26 = .ok (.aload_n 0, 1) := by decide +kernel
theorem dX12_love_27 : decode cX12_love 27 = .ok (.getfield 13, 3) := by decide +kernel
theorem dX12_love_30 : decode cX12_love 30 = .ok (.iconst 4, 1) := by decide +kernel
theorem dX12_love_31 : decode cX12_love 31 = .ok (.iload_n 1, 1) := by decide +kernel
theorem dX12_love_32 : decode cX12_love 32 = .ok (.imul, 1) := by decide +kernel
theorem dX12_love_33 : decode cX12_love 33 = .ok (.iload_n 2, 1) := by decide +kernel
theorem dX12_love_34 : decode cX12_love 34 = .ok (.iadd, 1) := by decide +kernel
theorem dX12_love_35 : decode cX12_love 35 = .ok (.iaload, 1) := by decide +kernel
theorem dX12_love_36 : decode cX12_love 36 = .ok (.istore 4, 2) := by decide +kernel
theorem dX12_love_38 : decode cX12_love 38 = .ok (.aload_n 0, 1) := by decide +kernel
theorem dX12_love_39 : decode cX12_love 39 = .ok (.getfield 13, 3) := by decide +kernel
theorem dX12_love_42 : decode cX12_love 42 = .ok (.iconst 4, 1) := by decide +kernel
theorem dX12_love_43 : decode cX12_love 43 = .ok (.iload_n 1, 1) := by decide +kernel
theorem dX12_love_44 : decode cX12_love 44 = .ok (.imul, 1) := by decide +kernel
theorem dX12_love_45 : decode cX12_love 45 = .ok (.iload_n 2, 1) := by decide +kernel
theorem dX12_love_46 : decode cX12_love 46 = .ok (.iadd, 1) := by decide +kernel
theorem dX12_love_47 : decode cX12_love 47 = .ok (.iload_n 3, 1) := by decide +kernel
theorem dX12_love_48 : decode cX12_love 48 = .ok (.iastore, 1) := by decide +kernel
theorem dX12_love_49 : decode cX12_love 49 = .ok (.iload 4, 2) := by decide +kernel
theorem dX12_love_51 : decode cX12_love 51 = .ok (.ireturn, 1) := by decide +kernel
set_option maxRecDepth 20000 in
theorem ggX12_pane_X12_in : GoodIn wsX12_pane wsX12_in := goodIn_r _ [5] (by decide +kernel) (by decide +kernel)
set_option maxRecDepth 20000 in
theorem gX12_pane_X12_in : GoodIn wsX12_pane (va_wsS RX12 72 yX12_in wsX12_in) := goodIn_app (goodIn_of _ (by decide +kernel)) ggX12_pane_X12_in
set_option maxRecDepth 20000 in
theorem ggX12_pane_X12_makes : GoodIn wsX12_pane wsX12_makes := goodIn_r _ [9, 10, 11, 12, 4, 13, 1, 14, 15, 16, 17, 18, 19, 20, 21, 22, 23, 24, 25, 26, 27, 28, 29, 30, 31, 32, 33, 34, 35, 36, 37, 38, 39, 40, 41, 42, 43, 44, 45, 46, 47, 48, 49, 50, 51, 52, 53] (by decide +kernel) (by decide +kernel)
set_option maxRecDepth 20000 in
theorem gX12_pane_X12_makes : GoodIn wsX12_pane (wsV RX12 187 RX12 yX12_makes wsX12_makes) := goodIn_app (goodIn_of _ (by decide +kernel)) ggX12_pane_X12_makes
theorem dX12_pane_0 : decode cX12_pane 0 = .ok (.iload_n 1, 1) := by decide +kernel
theorem dX12_pane_1 : decode cX12_pane 1 = .ok (.iconst 0, 1) := by decide +kernel
theorem dX12_pane_2 : decode cX12_pane 2 = .ok (.iconst 5, 1) := by decide +kernel
theorem dX12_pane_3 : decode cX12_pane 3 = .ok (.invokestatic 72, 3) := by decide +kernel
theorem dX12_pane_6 : decode cX12_pane 6 = .ok (.ifCond .eq 13, 3) := by decide +kernel
theorem dX12_pane_9 : decode cX12_pane 9 = .ok (.iload_n 2, 1) := by decide +kernel
theorem dX12_pane_10 : decode cX12_pane 10 = .ok (.iconst 1, 1) := by decide +kernel
theorem dX12_pane_11 : decode cX12_pane 11 = .ok (.bipush 16, 2) := by decide +kernel
theorem dX12_pane_13 : decode cX12_pane 13 = .ok (.invokestatic 72, 3) := by decide +kernel
theorem dX12_pane_16 : decode cX12_pane 16 = .ok (.ifCond .ne 5, 3) := by decide +kernel
theorem dX12_pane_19 : decode cX12_pane 19 = .ok (.iconst (-1), 1) := by decide +kernel
theorem dX12_pane_20 : decode cX12_pane 20 = .ok (.ireturn, 1) := by decide +kernel
theorem dX12_pane_21 : decode cX12_pane 21 = .ok (.aload_n 0, 1) := by decide +kernel
theorem dX12_pane_22 : decode cX12_pane 22 = .ok (.getfield 16, 3) := by decide +kernel
theorem dX12_pane_25 : decode cX12_pane 25 = .ok (.iconst 1, 1) := by decide +kernel
theorem dX12_pane_26 : decode cX12_pane 26 = .ok (.iaload, 1) := by decide +kernel
theorem dX12_pane_27 : decode cX12_pane 27 = .ok (.bipush 6, 2) := by decide +kernel
theorem dX12_pane_29 : decode cX12_pane 29 = .ok (.if_icmp .ne 6, 3) := by decide +kernel
theorem dX12_pane_32 : decode cX12_pane 32 = .ok (.bipush (-2), 2) := by decide +kernel
theorem dX12_pane_34 : decode cX12_pane 34 = .ok (.ireturn, 1) := by decide +kernel
theorem dX12_pane_35 : decode cX12_pane 35 = .ok (.aload_n 0, 1) := by decide +kernel
theorem dX12_pane_36 : decode cX12_pane 36 = .ok (.aload_n 0, 1) := by decide +kernel
theorem dX12_pane_37 : decode cX12_pane 37 = .ok (.getfield 16, 3) := by decide +kernel
theorem dX12_pane_40 : decode cX12_pane 40 = .ok (.iconst 1, 1) := by decide +kernel
theorem dX12_pane_41 : decode cX12_pane 41 = .ok (.iaload, 1) := by decide +kernel
theorem dX12_pane_42 : decode cX12_pane 42 = .ok (.iload_n 1, 1) := by decide +kernel
theorem dX12_pane_43 : decode cX12_pane 43 = .ok (.iload_n 2, 1) := by decide +kernel
theorem dX12_pane_44 : decode cX12_pane 44 = .ok (.iconst 4, 1) := by decide +kernel
theorem dX12_pane_45 : decode cX12_pane 45 = .ok (.invokevirtual 187, 3) := by decide +kernel
theorem dX12_pane_48 : decode cX12_pane 48 = .ok (.aload_n 0, 1) := by decide +kernel
theorem dX12_pane_49 : decode cX12_pane 49 = .ok (.getfield 16, 3) := by decide +kernel
theorem dX12_pane_52 : decode cX12_pane 52 = .ok (.iconst 1, 1) := by decide +kernel
theorem dX12_pane_53 : decode cX12_pane 53 = .ok (.dup2, 1) := by decide +kernel
theorem dX12_pane_54 : decode cX12_pane 54 = .ok (.iaload, 1) := by decide +kernel
theorem dX12_pane_55 : decode cX12_pane 55 = .ok (.iconst 1, 1) := by decide +kernel
theorem dX12_pane_56 : decode cX12_pane 56 = .ok (.iadd, 1) := by decide +kernel
theorem dX12_pane_57 : decode cX12_pane 57 = .ok (.iastore, 1) := by decide +kernel
theorem dX12_pane_58 : decode cX12_pane 58 = .ok (.aload_n 0, 1) := by decide +kernel
theorem dX12_pane_59 : decode cX12_pane 59 = .ok (.getfield 16, 3) := by decide +kernel
theorem dX12_pane_62 : decode cX12_pane 62 = .ok (.iconst 1, 1) := by decide +kernel
theorem dX12_pane_63 : decode cX12_pane 63 = .ok (.iaload, 1) := by decide +kernel
theorem dX12_pane_64 : decode cX12_pane 64 = .ok (.iconst 1, 1) := by decide +kernel
theorem dX12_pane_65 : decode cX12_pane 65 = .ok (.isub, 1) := by decide +kernel
theorem dX12_pane_66 : decode cX12_pane 66 = .ok (.ireturn, 1) := by decide +kernel
theorem dX12_movesBy_0 : decode cX12_movesBy 0 = .ok (.iload_n 0, 1) := by decide +kernel
theorem dX12_movesBy_1 : decode cX12_movesBy 1 = .ok (.iconst 1, 1) := by decide +kernel
theorem dX12_movesBy_2 : decode cX12_movesBy 2 = .ok (.if_icmp .ne 17, 3) := by decide +kernel
theorem dX12_movesBy_5 : decode cX12_movesBy 5 = .ok (.iload_n 1, 1) := by decide +kernel
theorem dX12_movesBy_6 : decode cX12_movesBy 6 = .ok (.iconst 2, 1) := by decide +kernel
theorem dX12_movesBy_7 : decode cX12_movesBy 7 = .ok (.irem, 1) := by decide +kernel
theorem dX12_movesBy_8 : decode cX12_movesBy 8 = .ok (.ifCond .ne 7, 3) := by decide +kernel
theorem dX12_movesBy_11 : decode cX12_movesBy 11 = .ok (.iconst 1, 1) := by decide +kernel
theorem dX12_movesBy_12 : decode cX12_movesBy 12 = .ok (.goto 23, 3) := by decide +kernel
theorem dX12_movesBy_15 : decode cX12_movesBy 15 = .ok (.iconst 0, 1) := by decide +kernel
theorem dX12_movesBy_16 : decode cX12_movesBy 16 = .ok (.goto 19, 3) := by decide +kernel
theorem dX12_movesBy_19 : decode cX12_movesBy 19 = .ok (.iload_n 0, 1) := by decide +kernel
theorem dX12_movesBy_20 : decode cX12_movesBy 20 = .ok (.iconst 2, 1) := by decide +kernel
theorem dX12_movesBy_21 : decode cX12_movesBy 21 = .ok (.if_icmp .ne 9, 3) := by decide +kernel
theorem dX12_movesBy_24 : decode cX12_movesBy 24 = .ok (.iload_n 1, 1) := by decide +kernel
theorem dX12_movesBy_25 : decode cX12_movesBy 25 = .ok (.iconst 4, 1) := by decide +kernel
theorem dX12_movesBy_26 : decode cX12_movesBy 26 = .ok (.irem, 1) := by decide +kernel
theorem dX12_movesBy_27 : decode cX12_movesBy 27 = .ok (.ifCond .ne 7, 3) := by decide +kernel
theorem dX12_movesBy_30 : decode cX12_movesBy 30 = .ok (.iconst 1, 1) := by decide +kernel
theorem dX12_movesBy_31 : decode cX12_movesBy 31 = .ok (.goto 4, 3) := by decide +kernel
theorem dX12_movesBy_34 : decode cX12_movesBy 34 = .ok (.iconst 0, 1) := by decide +kernel
theorem dX12_movesBy_35 : decode cX12_movesBy 35 = .ok (.ireturn, 1) := by decide +kernel
set_option maxRecDepth 20000 in
theorem ggX12_lastOf_X12_its : GoodIn wsX12_lastOf wsX12_its := goodIn_r _ [5, 6, 7, 8, 9, 10, 11, 12, 13, 14, 15, 16, 17, 18, 19, 20, 21, 22, 23, 24, 25, 26, 27, 28, 29, 30, 31, 32, 33, 34, 35, 36, 37, 38, 39, 40, 41, 42, 43, 44, 45, 46] (by decide +kernel) (by decide +kernel)
set_option maxRecDepth 20000 in
theorem gX12_lastOf_X12_its : GoodIn wsX12_lastOf (wsV RX12 207 RX12 yX12_its wsX12_its) := goodIn_app (goodIn_of _ (by decide +kernel)) ggX12_lastOf_X12_its
theorem dX12_lastOf_0 : decode cX12_lastOf 0 = .ok (.aload_n 0, 1) := by decide +kernel
theorem dX12_lastOf_1 : decode cX12_lastOf 1 = .ok (.iload_n 1, 1) := by decide +kernel
theorem dX12_lastOf_2 : decode cX12_lastOf 2 = .ok (.iconst 3, 1) := by decide +kernel
theorem dX12_lastOf_3 : decode cX12_lastOf 3 = .ok (.aload_n 0, 1) := by decide +kernel
theorem dX12_lastOf_4 : decode cX12_lastOf 4 = .ok (.iload_n 1, 1) := by decide +kernel
theorem dX12_lastOf_5 : decode cX12_lastOf 5 = .ok (.iconst 1, 1) := by decide +kernel
theorem dX12_lastOf_6 : decode cX12_lastOf 6 = .ok (.invokevirtual 207, 3) := by decide +kernel
theorem dX12_lastOf_9 : decode cX12_lastOf 9 = .ok (.iadd, 1) := by decide +kernel
theorem dX12_lastOf_10 : decode cX12_lastOf 10 = .ok (.iconst 1, 1) := by decide +kernel
theorem dX12_lastOf_11 : decode cX12_lastOf 11 = .ok (.isub, 1) := by decide +kernel
theorem dX12_lastOf_12 : decode cX12_lastOf 12 = .ok (.invokevirtual 207, 3) := by decide +kernel
theorem dX12_lastOf_15 : decode cX12_lastOf 15 = .ok (.ireturn, 1) := by decide +kernel
theorem dX12_viewBy_0 : decode cX12_viewBy 0 = .ok (.iload_n 1, 1) := by decide +kernel
theorem dX12_viewBy_1 : decode cX12_viewBy 1 = .ok (.ifCond .ge 7, 3) := by decide +kernel
theorem dX12_viewBy_4 : decode cX12_viewBy 4 = .ok (.iconst 0, 1) := by decide +kernel
theorem dX12_viewBy_5 : decode cX12_viewBy 5 = .ok (.goto 20, 3) := by decide +kernel
theorem dX12_viewBy_8 : decode cX12_viewBy 8 = .ok (.aload_n 0, 1) := by decide +kernel
theorem dX12_viewBy_9 : decode cX12_viewBy 9 = .ok (.getfield 7, 3) := by decide +kernel
theorem dX12_viewBy_12 : decode cX12_viewBy 12 = .ok (.bipush 50, 2) := by decide +kernel
theorem dX12_viewBy_14 : decode cX12_viewBy 14 = .ok (.iload_n 1, 1) := by decide +kernel
theorem dX12_viewBy_15 : decode cX12_viewBy 15 = .ok (.bipush 10, 2) := by decide +kernel
theorem dX12_viewBy_17 : decode cX12_viewBy 17 = .ok (.irem, 1) := by decide +kernel
theorem dX12_viewBy_18 : decode cX12_viewBy 18 = .ok (.imul, 1) := by decide +kernel
theorem dX12_viewBy_19 : decode cX12_viewBy 19 = .ok (.iload_n 1, 1) := by decide +kernel
theorem dX12_viewBy_20 : decode cX12_viewBy 20 = .ok (.bipush 10, 2) := by decide +kernel
theorem dX12_viewBy_22 : decode cX12_viewBy 22 = .ok (.idiv, 1) := by decide +kernel
theorem dX12_viewBy_23 : decode cX12_viewBy 23 = .ok (.iadd, 1) := by decide +kernel
theorem dX12_viewBy_24 : decode cX12_viewBy 24 = .ok (.iaload, 1) := by decide +kernel
theorem dX12_viewBy_25 : decode cX12_viewBy 25 = .ok (.ireturn, 1) := by decide +kernel
set_option maxRecDepth 20000 in
theorem ggX12_shown_X12_its : GoodIn wsX12_shown wsX12_its := goodIn_r _ [5, 6, 7, 17, 18, 19, 20, 21, 22, 23, 24, 25, 26, 27, 28, 29, 30, 31, 32, 33, 34, 35, 36, 37, 38, 39, 40, 41, 42, 43, 44, 45, 46, 47, 48, 49, 50, 51, 52, 53, 54, 55] (by decide +kernel) (by decide +kernel)
set_option maxRecDepth 20000 in
theorem gX12_shown_X12_its : GoodIn wsX12_shown (wsV RX12 207 RX12 yX12_its wsX12_its) := goodIn_app (goodIn_of _ (by decide +kernel)) ggX12_shown_X12_its
set_option maxRecDepth 20000 in
theorem ggX12_shown_X12_lastOf : GoodIn wsX12_shown wsX12_lastOf := goodIn_r _ [11, 1, 2, 3, 4, 5, 6, 7, 17, 18, 19, 20, 21, 22, 23, 24, 25, 26, 27, 28, 29, 30, 31, 32, 33, 34, 35, 36, 37, 38, 39, 40, 41, 42, 43, 44, 45, 46, 47, 48, 49, 50, 51, 52, 53, 54, 55] (by decide +kernel) (by decide +kernel)
set_option maxRecDepth 20000 in
theorem gX12_shown_X12_lastOf : GoodIn wsX12_shown (wsV RX12 210 RX12 yX12_lastOf wsX12_lastOf) := goodIn_app (goodIn_of _ (by decide +kernel)) ggX12_shown_X12_lastOf
set_option maxRecDepth 20000 in
theorem ggX12_shown_X12_viewBy : GoodIn wsX12_shown wsX12_viewBy := goodIn_r _ [15, 16, 17, 18, 19, 20, 21, 22, 23, 24, 25, 26, 27, 28, 29, 30, 31, 32, 33, 34, 35, 36, 37, 38, 39, 40, 41, 42, 43, 44, 45, 46, 47, 48, 49, 50, 51, 52, 53, 54, 55] (by decide +kernel) (by decide +kernel)
set_option maxRecDepth 20000 in
theorem gX12_shown_X12_viewBy : GoodIn wsX12_shown (wsV RX12 213 RX12 yX12_viewBy wsX12_viewBy) := goodIn_app (goodIn_of _ (by decide +kernel)) ggX12_shown_X12_viewBy
theorem dX12_shown_0 : decode cX12_shown 0 = .ok (.aload_n 0, 1) := by decide +kernel
theorem dX12_shown_1 : decode cX12_shown 1 = .ok (.iload_n 1, 1) := by decide +kernel
theorem dX12_shown_2 : decode cX12_shown 2 = .ok (.iconst 1, 1) := by decide +kernel
theorem dX12_shown_3 : decode cX12_shown 3 = .ok (.invokevirtual 207, 3) := by decide +kernel
theorem dX12_shown_6 : decode cX12_shown 6 = .ok (.istore_n 2, 1) := by decide +kernel
theorem dX12_shown_7 : decode cX12_shown 7 = .ok (.aload_n 0, 1) := by decide +kernel
theorem dX12_shown_8 : decode cX12_shown 8 = .ok (.aload_n 0, 1) := by decide +kernel
theorem dX12_shown_9 : decode cX12_shown 9 = .ok (.iload_n 1, 1) := by decide +kernel
theorem dX12_shown_10 : decode cX12_shown 10 = .ok (.invokevirtual 210, 3) := by decide +kernel
theorem dX12_shown_13 : decode cX12_shown 13 = .ok (.invokevirtual 213, 3) := by decide +kernel
theorem dX12_shown_16 : decode cX12_shown 16 = .ok (.istore_n 3, 1) := by decide +kernel
theorem dX12_shown_17 : decode cX12_shown 17 = .ok (.aload_n 0, 1) := by decide +kernel
theorem dX12_shown_18 : decode cX12_shown 18 = .ok (.iload_n 1, 1) := by decide +kernel
theorem dX12_shown_19 : decode cX12_shown 19 = .ok (.iconst 0, 1) := by decide +kernel
theorem dX12_shown_20 : decode cX12_shown 20 = .ok (.invokevirtual 207, 3) := by decide +kernel
theorem dX12_shown_23 : decode cX12_shown 23 = .ok (.tableswitch 85 3 5 #[25, 29, 68], 25) := by decide +kernel
theorem dX12_shown_48 : decode cX12_shown 48 = .ok (.iload_n 3, 1) := by decide +kernel
theorem dX12_shown_49 : decode cX12_shown 49 = .ok (.iconst 2, 1) := by decide +kernel
theorem dX12_shown_50 : decode cX12_shown 50 = .ok (.idiv, 1) := by decide +kernel
theorem dX12_shown_51 : decode cX12_shown 51 = .ok (.ireturn, 1) := by decide +kernel
theorem dX12_shown_52 : decode cX12_shown 52 = .ok (.iload_n 3, 1) := by decide +kernel
theorem dX12_shown_53 : decode cX12_shown 53 = .ok (.iconst 2, 1) := by decide +kernel
theorem dX12_shown_54 : decode cX12_shown 54 = .ok (.idiv, 1) := by decide +kernel
theorem dX12_shown_55 : decode cX12_shown 55 = .ok (.iload_n 2, 1) := by decide +kernel
theorem dX12_shown_56 : decode cX12_shown 56 = .ok (.iconst 1, 1) := by decide +kernel
theorem dX12_shown_57 : decode cX12_shown 57 = .ok (.if_icmp .le 31, 3) := by decide +kernel
theorem dX12_shown_60 : decode cX12_shown 60 = .ok (.aload_n 0, 1) := by decide +kernel
theorem dX12_shown_61 : decode cX12_shown 61 = .ok (.aload_n 0, 1) := by decide +kernel
theorem dX12_shown_62 : decode cX12_shown 62 = .ok (.iload_n 1, 1) := by decide +kernel
theorem dX12_shown_63 : decode cX12_shown 63 = .ok (.iconst 3, 1) := by decide +kernel
theorem dX12_shown_64 : decode cX12_shown 64 = .ok (.iload_n 2, 1) := by decide +kernel
theorem dX12_shown_65 : decode cX12_shown 65 = .ok (.iconst 1, 1) := by decide +kernel
theorem dX12_shown_66 : decode cX12_shown 66 = .ok (.if_icmp .le 9, 3) := by decide +kernel
theorem dX12_shown_69 : decode cX12_shown 69 = .ok (.iload_n 2, 1) := by decide +kernel
theorem dX12_shown_70 : decode cX12_shown 70 = .ok (.iconst 2, 1) := by decide +kernel
theorem dX12_shown_71 : decode cX12_shown 71 = .ok (.isub, 1) := by decide +kernel
theorem dX12_shown_72 : decode cX12_shown 72 = .ok (.goto 4, 3) := by decide +kernel
theorem dX12_shown_75 : decode cX12_shown 75 = .ok (.iconst 0, 1) := by decide +kernel
theorem dX12_shown_76 : decode cX12_shown 76 = .ok (.iadd, 1) := by decide +kernel
theorem dX12_shown_77 : decode cX12_shown 77 = .ok (.invokevirtual 207, 3) := by decide +kernel
theorem dX12_shown_80 : decode cX12_shown 80 = .ok (.invokevirtual 213, 3) := by decide +kernel
theorem dX12_shown_83 : decode cX12_shown 83 = .ok (.iconst 2, 1) := by decide +kernel
theorem dX12_shown_84 : decode cX12_shown 84 = .ok (.idiv, 1) := by decide +kernel
theorem dX12_shown_85 : decode cX12_shown 85 = .ok (.goto 4, 3) := by decide +kernel
theorem dX12_shown_88 : decode cX12_shown 88 = .ok (.iconst 0, 1) := by decide +kernel
theorem dX12_shown_89 : decode cX12_shown 89 = .ok (.iadd, 1) := by decide +kernel
theorem dX12_shown_90 : decode cX12_shown 90 = .ok (.ireturn, 1) := by decide +kernel
theorem dX12_shown_91 : decode cX12_shown 91 = .ok (.aload_n 0, 1) := by decide +kernel
theorem dX12_shown_92 : decode cX12_shown 92 = .ok (.iload_n 1, 1) := by decide +kernel
theorem dX12_shown_93 : decode cX12_shown 93 = .ok (.invokevirtual 210, 3) := by decide +kernel
theorem dX12_shown_96 : decode cX12_shown 96 = .ok (.ifCond .ge 7, 3) := by decide +kernel
theorem dX12_shown_99 : decode cX12_shown 99 = .ok (.iconst 0, 1) := by decide +kernel
theorem dX12_shown_100 : decode cX12_shown 100 = .ok (.goto 7, 3) := by decide +kernel
theorem dX12_shown_103 : decode cX12_shown 103 = .ok (.bipush 99, 2) := by decide +kernel
theorem dX12_shown_105 : decode cX12_shown 105 = .ok (.iload_n 3, 1) := by decide +kernel
theorem dX12_shown_106 : decode cX12_shown 106 = .ok (.isub, 1) := by decide +kernel
theorem dX12_shown_107 : decode cX12_shown 107 = .ok (.ireturn, 1) := by decide +kernel
theorem dX12_shown_108 : decode cX12_shown 108 = .ok (.iload_n 3, 1) := by decide +kernel
theorem dX12_shown_109 : decode cX12_shown 109 = .ok (.ireturn, 1) := by decide +kernel
theorem dX12_hung_0 : decode cX12_hung 0 = .ok (.iload_n 0, 1) := by decide +kernel
theorem dX12_hung_1 : decode cX12_hung 1 = .ok (.iconst 4, 1) := by decide +kernel
theorem dX12_hung_2 : decode cX12_hung 2 = .ok (.if_icmp .ne 8, 3) := by decide +kernel
theorem dX12_hung_5 : decode cX12_hung 5 = .ok (.bipush (-9), 2) := by decide +kernel
theorem dX12_hung_7 : decode cX12_hung 7 = .ok (.goto 4, 3) := by decide +kernel
theorem dX12_hung_10 : decode cX12_hung 10 = .ok (.iload_n 0, 1) := by decide +kernel
theorem dX12_hung_11 : decode cX12_hung 11 = .ok (.ireturn, 1) := by decide +kernel
set_option maxRecDepth 20000 in
theorem ggX12_paneOf_X12_isPane : GoodIn wsX12_paneOf wsX12_isPane := goodIn_r _ [6, 1, 7, 8, 5, 9, 34, 35, 36, 37, 38, 39, 40, 41, 42, 43, 44, 45, 46, 47, 48, 49, 50, 51, 52, 53, 54, 55, 56, 57, 58, 59, 60, 61, 62, 63, 64, 65, 66, 67, 68, 69, 70, 71, 72] (by decide +kernel) (by decide +kernel)
set_option maxRecDepth 20000 in
theorem gX12_paneOf_X12_isPane : GoodIn wsX12_paneOf (wsV RX12 216 RX12 yX12_isPane wsX12_isPane) := goodIn_app (goodIn_of _ (by decide +kernel)) ggX12_paneOf_X12_isPane
set_option maxRecDepth 20000 in
theorem ggX12_paneOf_X12_in : GoodIn wsX12_paneOf wsX12_in := goodIn_r _ [9] (by decide +kernel) (by decide +kernel)
set_option maxRecDepth 20000 in
theorem gX12_paneOf_X12_in : GoodIn wsX12_paneOf (va_wsS RX12 72 yX12_in wsX12_in) := goodIn_app (goodIn_of _ (by decide +kernel)) ggX12_paneOf_X12_in
set_option maxRecDepth 20000 in
theorem ggX12_paneOf_X12_its : GoodIn wsX12_paneOf wsX12_its := goodIn_r _ [13, 1, 14, 34, 35, 36, 37, 38, 39, 40, 41, 42, 43, 44, 45, 46, 47, 48, 49, 50, 51, 52, 53, 54, 55, 56, 57, 58, 59, 60, 61, 62, 63, 64, 65, 66, 67, 68, 69, 70, 71, 72] (by decide +kernel) (by decide +kernel)
set_option maxRecDepth 20000 in
theorem gX12_paneOf_X12_its : GoodIn wsX12_paneOf (wsV RX12 207 RX12 yX12_its wsX12_its) := goodIn_app (goodIn_of _ (by decide +kernel)) ggX12_paneOf_X12_its
set_option maxRecDepth 20000 in
theorem ggX12_paneOf_X12_hung : GoodIn wsX12_paneOf wsX12_hung := goodIn_r _ [17] (by decide +kernel) (by decide +kernel)
set_option maxRecDepth 20000 in
theorem gX12_paneOf_X12_hung : GoodIn wsX12_paneOf (va_wsS RX12 219 yX12_hung wsX12_hung) := goodIn_app (goodIn_of _ (by decide +kernel)) ggX12_paneOf_X12_hung
set_option maxRecDepth 20000 in
theorem ggX12_paneOf_X12_shown : GoodIn wsX12_paneOf wsX12_shown := goodIn_r _ [21, 10, 11, 12, 5, 13, 1, 14, 22, 23, 24, 25, 26, 27, 28, 29, 30, 34, 35, 36, 37, 38, 39, 40, 41, 42, 43, 44, 45, 46, 47, 48, 49, 50, 51, 52, 53, 54, 55, 56, 57, 58, 59, 60, 61, 62, 63, 64, 65, 66, 67, 68, 69, 70, 71, 72] (by decide +kernel) (by decide +kernel)
set_option maxRecDepth 20000 in
theorem gX12_paneOf_X12_shown : GoodIn wsX12_paneOf (wsV RX12 222 RX12 yX12_shown wsX12_shown) := goodIn_app (goodIn_of _ (by decide +kernel)) ggX12_paneOf_X12_shown
set_option maxRecDepth 20000 in
theorem ggX12_paneOf_X12_movesBy : GoodIn wsX12_paneOf wsX12_movesBy := goodIn_r _ [33] (by decide +kernel) (by decide +kernel)
set_option maxRecDepth 20000 in
theorem gX12_paneOf_X12_movesBy : GoodIn wsX12_paneOf (va_wsS RX12 225 yX12_movesBy wsX12_movesBy) := goodIn_app (goodIn_of _ (by decide +kernel)) ggX12_paneOf_X12_movesBy
theorem dX12_paneOf_0 : decode cX12_paneOf 0 = .ok (.aload_n 0, 1) := by decide +kernel
theorem dX12_paneOf_1 : decode cX12_paneOf 1 = .ok (.iload_n 1, 1) := by decide +kernel
theorem dX12_paneOf_2 : decode cX12_paneOf 2 = .ok (.invokevirtual 216, 3) := by decide +kernel
theorem dX12_paneOf_5 : decode cX12_paneOf 5 = .ok (.ifCond .eq 12, 3) := by decide +kernel
theorem dX12_paneOf_8 : decode cX12_paneOf 8 = .ok (.iload_n 2, 1) := by decide +kernel
theorem dX12_paneOf_9 : decode cX12_paneOf 9 = .ok (.iconst 0, 1) := by decide +kernel
theorem dX12_paneOf_10 : decode cX12_paneOf 10 = .ok (.iconst 4, 1) := by decide +kernel
theorem dX12_paneOf_11 : decode cX12_paneOf 11 = .ok (.invokestatic 72, 3) := by decide +kernel
theorem dX12_paneOf_14 : decode cX12_paneOf 14 = .ok (.ifCond .ne 5, 3) := by decide +kernel
theorem dX12_paneOf_17 : decode cX12_paneOf 17 = .ok (.iconst (-1), 1) := by decide +kernel
theorem dX12_paneOf_18 : decode cX12_paneOf 18 = .ok (.ireturn, 1) := by decide +kernel
theorem dX12_paneOf_19 : decode cX12_paneOf 19 = .ok (.iload_n 2, 1) := by decide +kernel
theorem dX12_paneOf_20 : decode cX12_paneOf 20 = .ok (.tableswitch 62 0 3 #[32, 39, 46, 56], 32) := by decide +kernel
theorem dX12_paneOf_52 : decode cX12_paneOf 52 = .ok (.aload_n 0, 1) := by decide +kernel
theorem dX12_paneOf_53 : decode cX12_paneOf 53 = .ok (.iload_n 1, 1) := by decide +kernel
theorem dX12_paneOf_54 : decode cX12_paneOf 54 = .ok (.iconst 0, 1) := by decide +kernel
theorem dX12_paneOf_55 : decode cX12_paneOf 55 = .ok (.invokevirtual 207, 3) := by decide +kernel
theorem dX12_paneOf_58 : decode cX12_paneOf 58 = .ok (.ireturn, 1) := by decide +kernel
theorem dX12_paneOf_59 : decode cX12_paneOf 59 = .ok (.aload_n 0, 1) := by decide +kernel
theorem dX12_paneOf_60 : decode cX12_paneOf 60 = .ok (.iload_n 1, 1) := by decide +kernel
theorem dX12_paneOf_61 : decode cX12_paneOf 61 = .ok (.iconst 1, 1) := by decide +kernel
theorem dX12_paneOf_62 : decode cX12_paneOf 62 = .ok (.invokevirtual 207, 3) := by decide +kernel
theorem dX12_paneOf_65 : decode cX12_paneOf 65 = .ok (.ireturn, 1) := by decide +kernel
theorem dX12_paneOf_66 : decode cX12_paneOf 66 = .ok (.aload_n 0, 1) := by decide +kernel
theorem dX12_paneOf_67 : decode cX12_paneOf 67 = .ok (.iload_n 1, 1) := by decide +kernel
theorem dX12_paneOf_68 : decode cX12_paneOf 68 = .ok (.iconst 2, 1) := by decide +kernel
theorem dX12_paneOf_69 : decode cX12_paneOf 69 = .ok (.invokevirtual 207, 3) := by decide +kernel
theorem dX12_paneOf_72 : decode cX12_paneOf 72 = .ok (.invokestatic 219, 3) := by decide +kernel
theorem dX12_paneOf_75 : decode cX12_paneOf 75 = .ok (.ireturn, 1) := by decide +kernel
theorem dX12_paneOf_76 : decode cX12_paneOf 76 = .ok (.aload_n 0, 1) := by decide +kernel
theorem dX12_paneOf_77 : decode cX12_paneOf 77 = .ok (.iload_n 1, 1) := by decide +kernel
theorem dX12_paneOf_78 : decode cX12_paneOf 78 = .ok (.invokevirtual 222, 3) := by decide +kernel
theorem dX12_paneOf_81 : decode cX12_paneOf 81 = .ok (.ireturn, 1) := by decide +kernel
theorem dX12_paneOf_82 : decode cX12_paneOf 82 = .ok (.aload_n 0, 1) := by decide +kernel
theorem dX12_paneOf_83 : decode cX12_paneOf 83 = .ok (.getfield 16, 3) := by decide +kernel
theorem dX12_paneOf_86 : decode cX12_paneOf 86 = .ok (.iconst 0, 1) := by decide +kernel
theorem dX12_paneOf_87 : decode cX12_paneOf 87 = .ok (.iaload, 1) := by decide +kernel
theorem dX12_paneOf_88 : decode cX12_paneOf 88 = .ok (.bipush 50, 2) := by decide +kernel
theorem dX12_paneOf_90 : decode cX12_paneOf 90 = .ok (.if_icmp .ge 25, 3) := by decide +kernel
theorem dX12_paneOf_93 : decode cX12_paneOf 93 = .ok (.aload_n 0, 1) := by decide +kernel
theorem dX12_paneOf_94 : decode cX12_paneOf 94 = .ok (.iload_n 1, 1) := by decide +kernel
theorem dX12_paneOf_95 : decode cX12_paneOf 95 = .ok (.iconst 0, 1) := by decide +kernel
theorem dX12_paneOf_96 : decode cX12_paneOf 96 = .ok (.invokevirtual 207, 3) := by decide +kernel
theorem dX12_paneOf_99 : decode cX12_paneOf 99 = .ok (.aload_n 0, 1) := by decide +kernel
theorem dX12_paneOf_100 : decode cX12_paneOf 100 = .ok (.getfield 16, 3) := by decide +kernel
theorem dX12_paneOf_103 : decode cX12_paneOf 103 = .ok (.iconst 0, 1) := by decide +kernel
theorem dX12_paneOf_104 : decode cX12_paneOf 104 = .ok (.iaload, 1) := by decide +kernel
theorem dX12_paneOf_105 : decode cX12_paneOf 105 = .ok (.invokestatic 225, 3) := by decide +kernel
theorem dX12_paneOf_108 : decode cX12_paneOf 108 = .ok (.ifCond .eq 7, 3) := by decide +kernel
theorem dX12_paneOf_111 : decode cX12_paneOf 111 = .ok (.iconst 1, 1) := by decide +kernel
theorem dX12_paneOf_112 : decode cX12_paneOf 112 = .ok (.goto 4, 3) := by decide +kernel
theorem dX12_paneOf_115 : decode cX12_paneOf 115 = .ok (.iconst 0, 1) := by decide +kernel
theorem dX12_paneOf_116 : decode cX12_paneOf 116 = .ok (.ireturn, 1) := by decide +kernel
set_option maxRecDepth 20000 in
theorem ggX12_glimpse_X12_isPane : GoodIn wsX12_glimpse wsX12_isPane := goodIn_r _ [5, 6, 7, 8, 4, 9, 15, 16, 17, 18, 19, 20, 21, 22, 23, 24, 25, 26, 27, 28, 29, 30, 31, 32, 33, 34, 35, 36, 37, 38, 39, 40, 41, 42, 43, 44, 45, 46, 47, 48, 49, 50, 51, 52, 53] (by decide +kernel) (by decide +kernel)
set_option maxRecDepth 20000 in
theorem gX12_glimpse_X12_isPane : GoodIn wsX12_glimpse (wsV RX12 216 RX12 yX12_isPane wsX12_isPane) := goodIn_app (goodIn_of _ (by decide +kernel)) ggX12_glimpse_X12_isPane
set_option maxRecDepth 20000 in
theorem ggX12_glimpse_X12_its : GoodIn wsX12_glimpse wsX12_its := goodIn_r _ [13, 6, 14, 15, 16, 17, 18, 19, 20, 21, 22, 23, 24, 25, 26, 27, 28, 29, 30, 31, 32, 33, 34, 35, 36, 37, 38, 39, 40, 41, 42, 43, 44, 45, 46, 47, 48, 49, 50, 51, 52, 53] (by decide +kernel) (by decide +kernel)
set_option maxRecDepth 20000 in
theorem gX12_glimpse_X12_its : GoodIn wsX12_glimpse (wsV RX12 207 RX12 yX12_its wsX12_its) := goodIn_app (goodIn_of _ (by decide +kernel)) ggX12_glimpse_X12_its
set_option maxRecDepth 20000 in
theorem ggX12_glimpse_X12_in : GoodIn wsX12_glimpse wsX12_in := goodIn_r _ [9] (by decide +kernel) (by decide +kernel)
set_option maxRecDepth 20000 in
theorem gX12_glimpse_X12_in : GoodIn wsX12_glimpse (va_wsS RX12 72 yX12_in wsX12_in) := goodIn_app (goodIn_of _ (by decide +kernel)) ggX12_glimpse_X12_in
theorem dX12_glimpse_0 : decode cX12_glimpse 0 = .ok (.aload_n 0, 1) := by decide +kernel
theorem dX12_glimpse_1 : decode cX12_glimpse 1 = .ok (.iload_n 1, 1) := by decide +kernel
theorem dX12_glimpse_2 : decode cX12_glimpse 2 = .ok (.invokevirtual 216, 3) := by decide +kernel
theorem dX12_glimpse_5 : decode cX12_glimpse 5 = .ok (.ifCond .ne 5, 3) := by decide +kernel
theorem dX12_glimpse_8 : decode cX12_glimpse 8 = .ok (.iconst (-1), 1) := by decide +kernel
theorem dX12_glimpse_9 : decode cX12_glimpse 9 = .ok (.ireturn, 1) := by decide +kernel
theorem dX12_glimpse_10 : decode cX12_glimpse 10 = .ok (.iload_n 2, 1) := by decide +kernel
theorem dX12_glimpse_11 : decode cX12_glimpse 11 = .ok (.iconst 0, 1) := by decide +kernel
theorem dX12_glimpse_12 : decode cX12_glimpse 12 = .ok (.aload_n 0, 1) := by decide +kernel
theorem dX12_glimpse_13 : decode cX12_glimpse 13 = .ok (.iload_n 1, 1) := by decide +kernel
theorem dX12_glimpse_14 : decode cX12_glimpse 14 = .ok (.iconst 1, 1) := by decide +kernel
theorem dX12_glimpse_15 : decode cX12_glimpse 15 = .ok (.invokevirtual 207, 3) := by decide +kernel
theorem dX12_glimpse_18 : decode cX12_glimpse 18 = .ok (.iconst 1, 1) := by decide +kernel
theorem dX12_glimpse_19 : decode cX12_glimpse 19 = .ok (.isub, 1) := by decide +kernel
theorem dX12_glimpse_20 : decode cX12_glimpse 20 = .ok (.invokestatic 72, 3) := by decide +kernel
theorem dX12_glimpse_23 : decode cX12_glimpse 23 = .ok (.ifCond .eq 14, 3) := by decide +kernel
theorem dX12_glimpse_26 : decode cX12_glimpse 26 = .ok (.aload_n 0, 1) := by decide +kernel
theorem dX12_glimpse_27 : decode cX12_glimpse 27 = .ok (.iload_n 1, 1) := by decide +kernel
theorem dX12_glimpse_28 : decode cX12_glimpse 28 = .ok (.iconst 3, 1) := by decide +kernel
theorem dX12_glimpse_29 : decode cX12_glimpse 29 = .ok (.iload_n 2, 1) := by decide +kernel
theorem dX12_glimpse_30 : decode cX12_glimpse 30 = .ok (.iadd, 1) := by decide +kernel
theorem dX12_glimpse_31 : decode cX12_glimpse 31 = .ok (.invokevirtual 207, 3) := by decide +kernel
theorem dX12_glimpse_34 : decode cX12_glimpse 34 = .ok (.goto 5, 3) := by decide +kernel
theorem dX12_glimpse_37 : decode cX12_glimpse 37 = .ok (.bipush (-3), 2) := by decide +kernel
theorem dX12_glimpse_39 : decode cX12_glimpse 39 = .ok (.ireturn, 1) := by decide +kernel
set_option maxRecDepth 20000 in
theorem ggX12_hang_X12_isPane : GoodIn wsX12_hang wsX12_isPane := goodIn_r _ [5, 6, 7, 8, 4, 9, 22, 23, 24, 25, 26, 27, 28, 29, 30, 31, 32, 33, 34, 35, 36, 37, 38, 39, 40, 41, 42, 43, 44, 45, 46, 47, 48, 49, 50, 51, 52, 53, 54, 55, 56, 57, 58, 59, 60] (by decide +kernel) (by decide +kernel)
set_option maxRecDepth 20000 in
theorem gX12_hang_X12_isPane : GoodIn wsX12_hang (wsV RX12 216 RX12 yX12_isPane wsX12_isPane) := goodIn_app (goodIn_of _ (by decide +kernel)) ggX12_hang_X12_isPane
set_option maxRecDepth 20000 in
theorem ggX12_hang_X12_in : GoodIn wsX12_hang wsX12_in := goodIn_r _ [9] (by decide +kernel) (by decide +kernel)
set_option maxRecDepth 20000 in
theorem gX12_hang_X12_in : GoodIn wsX12_hang (va_wsS RX12 72 yX12_in wsX12_in) := goodIn_app (goodIn_of _ (by decide +kernel)) ggX12_hang_X12_in
set_option maxRecDepth 20000 in
theorem ggX12_hang_X12_its : GoodIn wsX12_hang wsX12_its := goodIn_r _ [13, 6, 14, 22, 23, 24, 25, 26, 27, 28, 29, 30, 31, 32, 33, 34, 35, 36, 37, 38, 39, 40, 41, 42, 43, 44, 45, 46, 47, 48, 49, 50, 51, 52, 53, 54, 55, 56, 57, 58, 59, 60] (by decide +kernel) (by decide +kernel)
set_option maxRecDepth 20000 in
theorem gX12_hang_X12_its : GoodIn wsX12_hang (wsV RX12 207 RX12 yX12_its wsX12_its) := goodIn_app (goodIn_of _ (by decide +kernel)) ggX12_hang_X12_its
set_option maxRecDepth 20000 in
theorem ggX12_hang_X12_becomes : GoodIn wsX12_hang wsX12_becomes := goodIn_r _ [18, 6, 14, 22, 23, 24, 25, 26, 27, 28, 29, 30, 31, 32, 33, 34, 35, 36, 37, 38, 39, 40, 41, 42, 43, 44, 45, 46, 47, 48, 49, 50, 51, 52, 53, 54, 55, 56, 57, 58, 59, 60] (by decide +kernel) (by decide +kernel)
set_option maxRecDepth 20000 in
theorem gX12_hang_X12_becomes : GoodIn wsX12_hang (wsV RX12 194 RX12 yX12_becomes wsX12_becomes) := goodIn_app (goodIn_of _ (by decide +kernel)) ggX12_hang_X12_becomes
set_option maxRecDepth 20000 in
theorem ggX12_hang_X12_hung : GoodIn wsX12_hang wsX12_hung := goodIn_r _ [21] (by decide +kernel) (by decide +kernel)
set_option maxRecDepth 20000 in
theorem gX12_hang_X12_hung : GoodIn wsX12_hang (va_wsS RX12 219 yX12_hung wsX12_hung) := goodIn_app (goodIn_of _ (by decide +kernel)) ggX12_hang_X12_hung
theorem dX12_hang_0 : decode cX12_hang 0 = .ok (.aload_n 0, 1) := by decide +kernel
theorem dX12_hang_1 : decode cX12_hang 1 = .ok (.iload_n 1, 1) := by decide +kernel
theorem dX12_hang_2 : decode cX12_hang 2 = .ok (.invokevirtual 216, 3) := by decide +kernel
theorem dX12_hang_5 : decode cX12_hang 5 = .ok (.ifCond .eq 12, 3) := by decide +kernel
theorem dX12_hang_8 : decode cX12_hang 8 = .ok (.iload_n 2, 1) := by decide +kernel
theorem dX12_hang_9 : decode cX12_hang 9 = .ok (.iconst 0, 1) := by decide +kernel
theorem dX12_hang_10 : decode cX12_hang 10 = .ok (.iconst 4, 1) := by decide +kernel
theorem dX12_hang_11 : decode cX12_hang 11 = .ok (.invokestatic 72, 3) := by decide +kernel
theorem dX12_hang_14 : decode cX12_hang 14 = .ok (.ifCond .ne 5, 3) := by decide +kernel
theorem dX12_hang_17 : decode cX12_hang 17 = .ok (.iconst (-1), 1) := by decide +kernel
theorem dX12_hang_18 : decode cX12_hang 18 = .ok (.ireturn, 1) := by decide +kernel
theorem dX12_hang_19 : decode cX12_hang 19 = .ok (.aload_n 0, 1) := by decide +kernel
theorem dX12_hang_20 : decode cX12_hang 20 = .ok (.iload_n 1, 1) := by decide +kernel
theorem dX12_hang_21 : decode cX12_hang 21 = .ok (.iconst 2, 1) := by decide +kernel
theorem dX12_hang_22 : decode cX12_hang 22 = .ok (.invokevirtual 207, 3) := by decide +kernel
theorem dX12_hang_25 : decode cX12_hang 25 = .ok (.istore_n 3, 1) := by decide +kernel
theorem dX12_hang_26 : decode cX12_hang 26 = .ok (.aload_n 0, 1) := by decide +kernel
theorem dX12_hang_27 : decode cX12_hang 27 = .ok (.iload_n 1, 1) := by decide +kernel
theorem dX12_hang_28 : decode cX12_hang 28 = .ok (.iconst 2, 1) := by decide +kernel
theorem dX12_hang_29 : decode cX12_hang 29 = .ok (.iload_n 2, 1) := by decide +kernel
theorem dX12_hang_30 : decode cX12_hang 30 = .ok (.invokevirtual 194, 3) := by decide +kernel
theorem dX12_hang_33 : decode cX12_hang 33 = .ok (.iload_n 3, 1) := by decide +kernel
theorem dX12_hang_34 : decode cX12_hang 34 = .ok (.invokestatic 219, 3) := by decide +kernel
theorem dX12_hang_37 : decode cX12_hang 37 = .ok (.ireturn, 1) := by decide +kernel
set_option maxRecDepth 20000 in
theorem ggX12_cast_X12_isPane : GoodIn wsX12_cast wsX12_isPane := goodIn_r _ [5, 6, 7, 8, 4, 9, 19, 20, 21, 22, 23, 24, 25, 26, 27, 28, 29, 30, 31, 32, 33, 34, 35, 36, 37, 38, 39, 40, 41, 42, 43, 44, 45, 46, 47, 48, 49, 50, 51, 52, 53, 54, 55, 56, 57] (by decide +kernel) (by decide +kernel)
set_option maxRecDepth 20000 in
theorem gX12_cast_X12_isPane : GoodIn wsX12_cast (wsV RX12 216 RX12 yX12_isPane wsX12_isPane) := goodIn_app (goodIn_of _ (by decide +kernel)) ggX12_cast_X12_isPane
set_option maxRecDepth 20000 in
theorem ggX12_cast_X12_in : GoodIn wsX12_cast wsX12_in := goodIn_r _ [9] (by decide +kernel) (by decide +kernel)
set_option maxRecDepth 20000 in
theorem gX12_cast_X12_in : GoodIn wsX12_cast (va_wsS RX12 72 yX12_in wsX12_in) := goodIn_app (goodIn_of _ (by decide +kernel)) ggX12_cast_X12_in
set_option maxRecDepth 20000 in
theorem ggX12_cast_X12_its : GoodIn wsX12_cast wsX12_its := goodIn_r _ [13, 6, 14, 19, 20, 21, 22, 23, 24, 25, 26, 27, 28, 29, 30, 31, 32, 33, 34, 35, 36, 37, 38, 39, 40, 41, 42, 43, 44, 45, 46, 47, 48, 49, 50, 51, 52, 53, 54, 55, 56, 57] (by decide +kernel) (by decide +kernel)
set_option maxRecDepth 20000 in
theorem gX12_cast_X12_its : GoodIn wsX12_cast (wsV RX12 207 RX12 yX12_its wsX12_its) := goodIn_app (goodIn_of _ (by decide +kernel)) ggX12_cast_X12_its
set_option maxRecDepth 20000 in
theorem ggX12_cast_X12_becomes : GoodIn wsX12_cast wsX12_becomes := goodIn_r _ [18, 6, 14, 19, 20, 21, 22, 23, 24, 25, 26, 27, 28, 29, 30, 31, 32, 33, 34, 35, 36, 37, 38, 39, 40, 41, 42, 43, 44, 45, 46, 47, 48, 49, 50, 51, 52, 53, 54, 55, 56, 57] (by decide +kernel) (by decide +kernel)
set_option maxRecDepth 20000 in
theorem gX12_cast_X12_becomes : GoodIn wsX12_cast (wsV RX12 194 RX12 yX12_becomes wsX12_becomes) := goodIn_app (goodIn_of _ (by decide +kernel)) ggX12_cast_X12_becomes
theorem dX12_cast_0 : decode cX12_cast 0 = .ok (.aload_n 0, 1) := by decide +kernel
theorem dX12_cast_1 : decode cX12_cast 1 = .ok (.iload_n 1, 1) := by decide +kernel
theorem dX12_cast_2 : decode cX12_cast 2 = .ok (.invokevirtual 216, 3) := by decide +kernel
theorem dX12_cast_5 : decode cX12_cast 5 = .ok (.ifCond .eq 12, 3) := by decide +kernel
theorem dX12_cast_8 : decode cX12_cast 8 = .ok (.iload_n 2, 1) := by decide +kernel
theorem dX12_cast_9 : decode cX12_cast 9 = .ok (.iconst 0, 1) := by decide +kernel
theorem dX12_cast_10 : decode cX12_cast 10 = .ok (.iconst 5, 1) := by decide +kernel
theorem dX12_cast_11 : decode cX12_cast 11 = .ok (.invokestatic 72, 3) := by decide +kernel
theorem dX12_cast_14 : decode cX12_cast 14 = .ok (.ifCond .ne 5, 3) := by decide +kernel
theorem dX12_cast_17 : decode cX12_cast 17 = .ok (.iconst (-1), 1) := by decide +kernel
theorem dX12_cast_18 : decode cX12_cast 18 = .ok (.ireturn, 1) := by decide +kernel
theorem dX12_cast_19 : decode cX12_cast 19 = .ok (.aload_n 0, 1) := by decide +kernel
theorem dX12_cast_20 : decode cX12_cast 20 = .ok (.iload_n 1, 1) := by decide +kernel
theorem dX12_cast_21 : decode cX12_cast 21 = .ok (.iconst 0, 1) := by decide +kernel
theorem dX12_cast_22 : decode cX12_cast 22 = .ok (.invokevirtual 207, 3) := by decide +kernel
theorem dX12_cast_25 : decode cX12_cast 25 = .ok (.istore_n 3, 1) := by decide +kernel
theorem dX12_cast_26 : decode cX12_cast 26 = .ok (.aload_n 0, 1) := by decide +kernel
theorem dX12_cast_27 : decode cX12_cast 27 = .ok (.iload_n 1, 1) := by decide +kernel
theorem dX12_cast_28 : decode cX12_cast 28 = .ok (.iconst 0, 1) := by decide +kernel
theorem dX12_cast_29 : decode cX12_cast 29 = .ok (.iload_n 2, 1) := by decide +kernel
theorem dX12_cast_30 : decode cX12_cast 30 = .ok (.invokevirtual 194, 3) := by decide +kernel
theorem dX12_cast_33 : decode cX12_cast 33 = .ok (.iload_n 3, 1) := by decide +kernel
theorem dX12_cast_34 : decode cX12_cast 34 = .ok (.ireturn, 1) := by decide +kernel
theorem dX12_today_0 : decode cX12_today 0 = .ok (.aload_n 0, 1) := by decide +kernel
theorem dX12_today_1 : decode cX12_today 1 = .ok (.getfield 16, 3) := by decide +kernel
theorem dX12_today_4 : decode cX12_today 4 = .ok (.iconst 0, 1) := by decide +kernel
theorem dX12_today_5 : decode cX12_today 5 = .ok (.iaload, 1) := by decide +kernel
theorem dX12_today_6 : decode cX12_today 6 = .ok (.ireturn, 1) := by decide +kernel
set_option maxRecDepth 20000 in
theorem ggX12_moves_X12_its : GoodIn wsX12_moves wsX12_its := goodIn_r _ [5, 6, 7, 15, 16, 17, 18, 19, 20, 21, 22, 23, 24, 25, 26, 27, 28, 29, 30, 31, 32, 33, 34, 35, 36, 37, 38, 39, 40, 41, 42, 43, 44, 45, 46, 47, 48, 49, 50, 51, 52, 53] (by decide +kernel) (by decide +kernel)
set_option maxRecDepth 20000 in
theorem gX12_moves_X12_its : GoodIn wsX12_moves (wsV RX12 207 RX12 yX12_its wsX12_its) := goodIn_app (goodIn_of _ (by decide +kernel)) ggX12_moves_X12_its
set_option maxRecDepth 20000 in
theorem ggX12_moves_X12_movesBy : GoodIn wsX12_moves wsX12_movesBy := goodIn_r _ [10] (by decide +kernel) (by decide +kernel)
set_option maxRecDepth 20000 in
theorem gX12_moves_X12_movesBy : GoodIn wsX12_moves (va_wsS RX12 225 yX12_movesBy wsX12_movesBy) := goodIn_app (goodIn_of _ (by decide +kernel)) ggX12_moves_X12_movesBy
set_option maxRecDepth 20000 in
theorem ggX12_moves_X12_becomes : GoodIn wsX12_moves wsX12_becomes := goodIn_r _ [14, 6, 7, 15, 16, 17, 18, 19, 20, 21, 22, 23, 24, 25, 26, 27, 28, 29, 30, 31, 32, 33, 34, 35, 36, 37, 38, 39, 40, 41, 42, 43, 44, 45, 46, 47, 48, 49, 50, 51, 52, 53] (by decide +kernel) (by decide +kernel)
set_option maxRecDepth 20000 in
theorem gX12_moves_X12_becomes : GoodIn wsX12_moves (wsV RX12 194 RX12 yX12_becomes wsX12_becomes) := goodIn_app (goodIn_of _ (by decide +kernel)) ggX12_moves_X12_becomes
theorem dX12_moves_0 : decode cX12_moves 0 = .ok (.aload_n 0, 1) := by decide +kernel
theorem dX12_moves_1 : decode cX12_moves 1 = .ok (.iload_n 1, 1) := by decide +kernel
theorem dX12_moves_2 : decode cX12_moves 2 = .ok (.iconst 0, 1) := by decide +kernel
theorem dX12_moves_3 : decode cX12_moves 3 = .ok (.invokevirtual 207, 3) := by decide +kernel
theorem dX12_moves_6 : decode cX12_moves 6 = .ok (.iload_n 2, 1) := by decide +kernel
theorem dX12_moves_7 : decode cX12_moves 7 = .ok (.invokestatic 225, 3) := by decide +kernel
theorem dX12_moves_10 : decode cX12_moves 10 = .ok (.ifCond .ne 4, 3) := by decide +kernel
theorem dX12_moves_13 : decode cX12_moves 13 = .ok (.return_, 1) := by decide +kernel
theorem dX12_moves_14 : decode cX12_moves 14 = .ok (.aload_n 0, 1) := by decide +kernel
theorem dX12_moves_15 : decode cX12_moves 15 = .ok (.iload_n 1, 1) := by decide +kernel
theorem dX12_moves_16 : decode cX12_moves 16 = .ok (.iconst 1, 1) := by decide +kernel
theorem dX12_moves_17 : decode cX12_moves 17 = .ok (.invokevirtual 207, 3) := by decide +kernel
theorem dX12_moves_20 : decode cX12_moves 20 = .ok (.iconst 1, 1) := by decide +kernel
theorem dX12_moves_21 : decode cX12_moves 21 = .ok (.isub, 1) := by decide +kernel
theorem dX12_moves_22 : decode cX12_moves 22 = .ok (.istore_n 3, 1) := by decide +kernel
theorem dX12_moves_23 : decode cX12_moves 23 = .ok (.iload_n 3, 1) := by decide +kernel
theorem dX12_moves_24 : decode cX12_moves 24 = .ok (.ifCond .le 27, 3) := by decide +kernel
theorem dX12_moves_27 : decode cX12_moves 27 = .ok (.aload_n 0, 1) := by decide +kernel
theorem dX12_moves_28 : decode cX12_moves 28 = .ok (.iload_n 1, 1) := by decide +kernel
theorem dX12_moves_29 : decode cX12_moves 29 = .ok (.iconst 3, 1) := by decide +kernel
theorem dX12_moves_30 : decode cX12_moves 30 = .ok (.iload_n 3, 1) := by decide +kernel
theorem dX12_moves_31 : decode cX12_moves 31 = .ok (.iadd, 1) := by decide +kernel
theorem dX12_moves_32 : decode cX12_moves 32 = .ok (.aload_n 0, 1) := by decide +kernel
theorem dX12_moves_33 : decode cX12_moves 33 = .ok (.iload_n 1, 1) := by decide +kernel
theorem dX12_moves_34 : decode cX12_moves 34 = .ok (.iconst 3, 1) := by decide +kernel
theorem dX12_moves_35 : decode cX12_moves 35 = .ok (.iload_n 3, 1) := by decide +kernel
theorem dX12_moves_36 : decode cX12_moves 36 = .ok (.iadd, 1) := by decide +kernel
theorem dX12_moves_37 : decode cX12_moves 37 = .ok (.iconst 1, 1) := by decide +kernel
theorem dX12_moves_38 : decode cX12_moves 38 = .ok (.isub, 1) := by decide +kernel
theorem dX12_moves_39 : decode cX12_moves 39 = .ok (.invokevirtual 207, 3) := by decide +kernel
theorem dX12_moves_42 : decode cX12_moves 42 = .ok (.invokevirtual 194, 3) := by decide +kernel
theorem dX12_moves_45 : decode cX12_moves 45 = .ok (.iinc 3 (-1), 3) := by decide +kernel
theorem dX12_moves_48 : decode cX12_moves 48 = .ok (.goto (-25), 3) := by decide +kernel
theorem dX12_moves_51 : decode cX12_moves 51 = .ok (.aload_n 0, 1) := by decide +kernel
theorem dX12_moves_52 : decode cX12_moves 52 = .ok (.iload_n 1, 1) := by decide +kernel
theorem dX12_moves_53 : decode cX12_moves 53 = .ok (.iconst 2, 1) := by decide +kernel
theorem dX12_moves_54 : decode cX12_moves 54 = .ok (.invokevirtual 207, 3) := by decide +kernel
theorem dX12_moves_57 : decode cX12_moves 57 = .ok (.istore_n 3, 1) := by decide +kernel
theorem dX12_moves_58 : decode cX12_moves 58 = .ok (.aload_n 0, 1) := by decide +kernel
theorem dX12_moves_59 : decode cX12_moves 59 = .ok (.iload_n 1, 1) := by decide +kernel
theorem dX12_moves_60 : decode cX12_moves 60 = .ok (.iconst 3, 1) := by decide +kernel
theorem dX12_moves_61 : decode cX12_moves 61 = .ok (.iload_n 3, 1) := by decide +kernel
theorem dX12_moves_62 : decode cX12_moves 62 = .ok (.iconst 4, 1) := by decide +kernel
theorem dX12_moves_63 : decode cX12_moves 63 = .ok (.if_icmp .ne 8, 3) := by decide +kernel
theorem dX12_moves_66 : decode cX12_moves 66 = .ok (.bipush (-9), 2) := by decide +kernel
theorem dX12_moves_68 : decode cX12_moves 68 = .ok (.goto 9, 3) := by decide +kernel
theorem dX12_moves_71 : decode cX12_moves 71 = .ok (.bipush 10, 2) := by decide +kernel
theorem dX12_moves_73 : decode cX12_moves 73 = .ok (.iload_n 2, 1) := by decide +kernel
theorem dX12_moves_74 : decode cX12_moves 74 = .ok (.imul, 1) := by decide +kernel
theorem dX12_moves_75 : decode cX12_moves 75 = .ok (.iload_n 3, 1) := by decide +kernel
theorem dX12_moves_76 : decode cX12_moves 76 = .ok (.iadd, 1) := by decide +kernel
theorem dX12_moves_77 : decode cX12_moves 77 = .ok (.invokevirtual 194, 3) := by decide +kernel
theorem dX12_moves_80 : decode cX12_moves 80 = .ok (.return_, 1) := by decide +kernel
set_option maxRecDepth 20000 in
theorem ggX12_dayGoes_X12_moves : GoodIn wsX12_dayGoes wsX12_moves := goodIn_r _ [7, 8, 9, 10, 6, 11, 1, 2, 12, 13, 14, 15, 16, 17, 18, 19, 20, 21, 22, 23, 24, 25, 26, 27, 28, 29, 30, 31, 32, 33, 34, 35, 36, 37, 38, 39, 40, 41, 42, 43, 44, 45, 46, 47, 48, 49, 50, 51, 52, 53, 54, 55, 56, 57] (by decide +kernel) (by decide +kernel)
set_option maxRecDepth 20000 in
theorem gX12_dayGoes_X12_moves : GoodIn wsX12_dayGoes (wsV RX12 229 RX12 yX12_moves wsX12_moves) := goodIn_app (goodIn_of _ (by decide +kernel)) ggX12_dayGoes_X12_moves
theorem dX12_dayGoes_0 : decode cX12_dayGoes 0 = .ok (.aload_n 0, 1) := by decide +kernel
theorem dX12_dayGoes_1 : decode cX12_dayGoes 1 = .ok (.getfield 16, 3) := by decide +kernel
theorem dX12_dayGoes_4 : decode cX12_dayGoes 4 = .ok (.aload_n 0, 1) := by decide +kernel
theorem dX12_dayGoes_5 : decode cX12_dayGoes 5 = .ok (.getfield 76, 3) := by decide +kernel
theorem dX12_dayGoes_8 : decode cX12_dayGoes 8 = .ok (.iconst 0, 1) := by decide +kernel
theorem dX12_dayGoes_9 : decode cX12_dayGoes 9 = .ok (.iadd, 1) := by decide +kernel
theorem dX12_dayGoes_10 : decode cX12_dayGoes 10 = .ok (.iaload, 1) := by decide +kernel
theorem dX12_dayGoes_11 : decode cX12_dayGoes 11 = .ok (.istore_n 1, 1) := by decide +kernel
theorem dX12_dayGoes_12 : decode cX12_dayGoes 12 = .ok (.iconst 0, 1) := by decide +kernel
theorem dX12_dayGoes_13 : decode cX12_dayGoes 13 = .ok (.istore_n 2, 1) := by decide +kernel
theorem dX12_dayGoes_14 : decode cX12_dayGoes 14 = .ok (.iload_n 2, 1) := by decide +kernel
theorem dX12_dayGoes_15 : decode cX12_dayGoes 15 = .ok (.aload_n 0, 1) := by decide +kernel
theorem dX12_dayGoes_16 : decode cX12_dayGoes 16 = .ok (.getfield 16, 3) := by decide +kernel
theorem dX12_dayGoes_19 : decode cX12_dayGoes 19 = .ok (.aload_n 0, 1) := by decide +kernel
theorem dX12_dayGoes_20 : decode cX12_dayGoes 20 = .ok (.getfield 76, 3) := by decide +kernel
theorem dX12_dayGoes_23 : decode cX12_dayGoes 23 = .ok (.iconst 1, 1) := by decide +kernel
theorem dX12_dayGoes_24 : decode cX12_dayGoes 24 = .ok (.iadd, 1) := by decide +kernel
theorem dX12_dayGoes_25 : decode cX12_dayGoes 25 = .ok (.iaload, 1) := by decide +kernel
theorem dX12_dayGoes_26 : decode cX12_dayGoes 26 = .ok (.if_icmp .ge 15, 3) := by decide +kernel
theorem dX12_dayGoes_29 : decode cX12_dayGoes 29 = .ok (.aload_n 0, 1) := by decide +kernel
theorem dX12_dayGoes_30 : decode cX12_dayGoes 30 = .ok (.iload_n 2, 1) := by decide +kernel
theorem dX12_dayGoes_31 : decode cX12_dayGoes 31 = .ok (.iload_n 1, 1) := by decide +kernel
theorem dX12_dayGoes_32 : decode cX12_dayGoes 32 = .ok (.invokevirtual 229, 3) := by decide +kernel
theorem dX12_dayGoes_35 : decode cX12_dayGoes 35 = .ok (.iinc 2 1, 3) := by decide +kernel
theorem dX12_dayGoes_38 : decode cX12_dayGoes 38 = .ok (.goto (-24), 3) := by decide +kernel
theorem dX12_dayGoes_41 : decode cX12_dayGoes 41 = .ok (.aload_n 0, 1) := by decide +kernel
theorem dX12_dayGoes_42 : decode cX12_dayGoes 42 = .ok (.getfield 16, 3) := by decide +kernel
theorem dX12_dayGoes_45 : decode cX12_dayGoes 45 = .ok (.aload_n 0, 1) := by decide +kernel
theorem dX12_dayGoes_46 : decode cX12_dayGoes 46 = .ok (.getfield 76, 3) := by decide +kernel
theorem dX12_dayGoes_49 : decode cX12_dayGoes 49 = .ok (.iconst 0, 1) := by decide +kernel
theorem dX12_dayGoes_50 : decode cX12_dayGoes 50 = .ok (.iadd, 1) := by decide +kernel
theorem dX12_dayGoes_51 : decode cX12_dayGoes 51 = .ok (.dup2, 1) := by decide +kernel
theorem dX12_dayGoes_52 : decode cX12_dayGoes 52 = .ok (.iaload, 1) := by decide +kernel
theorem dX12_dayGoes_53 : decode cX12_dayGoes 53 = .ok (.iconst 1, 1) := by decide +kernel
theorem dX12_dayGoes_54 : decode cX12_dayGoes 54 = .ok (.iadd, 1) := by decide +kernel
theorem dX12_dayGoes_55 : decode cX12_dayGoes 55 = .ok (.iastore, 1) := by decide +kernel
theorem dX12_dayGoes_56 : decode cX12_dayGoes 56 = .ok (.return_, 1) := by decide +kernel
set_option maxRecDepth 20000 in
theorem ggX12_days_X12_in : GoodIn wsX12_days wsX12_in := goodIn_r _ [5] (by decide +kernel) (by decide +kernel)
set_option maxRecDepth 20000 in
theorem gX12_days_X12_in : GoodIn wsX12_days (va_wsS RX12 72 yX12_in wsX12_in) := goodIn_app (goodIn_of _ (by decide +kernel)) ggX12_days_X12_in
set_option maxRecDepth 20000 in
theorem ggX12_days_X12_dayGoes : GoodIn wsX12_days wsX12_dayGoes := goodIn_r _ [9, 1, 10, 11, 12, 13, 4, 14, 15, 16, 17, 18, 19, 20, 21, 22, 23, 24, 25, 26, 27, 28, 29, 30, 31, 32, 33, 34, 35, 36, 37, 38, 39, 40, 41, 42, 43, 44, 45, 46, 47, 48, 49, 50, 51, 52, 53, 54, 55, 56, 57, 58, 59, 60, 61, 62, 63, 64] (by decide +kernel) (by decide +kernel)
set_option maxRecDepth 20000 in
theorem gX12_days_X12_dayGoes : GoodIn wsX12_days (wsV RX12 232 RX12 yX12_dayGoes wsX12_dayGoes) := goodIn_app (goodIn_of _ (by decide +kernel)) ggX12_days_X12_dayGoes
theorem dX12_days_0 : decode cX12_days 0 = .ok (.iload_n 1, 1) := by decide +kernel
theorem dX12_days_1 : decode cX12_days 1 = .ok (.iconst 0, 1) := by decide +kernel
theorem dX12_days_2 : decode cX12_days 2 = .ok (.bipush 50, 2) := by decide +kernel
theorem dX12_days_4 : decode cX12_days 4 = .ok (.invokestatic 72, 3) := by decide +kernel
theorem dX12_days_7 : decode cX12_days 7 = .ok (.ifCond .ne 5, 3) := by decide +kernel
theorem dX12_days_10 : decode cX12_days 10 = .ok (.iconst (-1), 1) := by decide +kernel
theorem dX12_days_11 : decode cX12_days 11 = .ok (.ireturn, 1) := by decide +kernel
theorem dX12_days_12 : decode cX12_days 12 = .ok (.iconst 0, 1) := by decide +kernel
theorem dX12_days_13 : decode cX12_days 13 = .ok (.istore_n 2, 1) := by decide +kernel
theorem dX12_days_14 : decode cX12_days 14 = .ok (.iload_n 2, 1) := by decide +kernel
theorem dX12_days_15 : decode cX12_days 15 = .ok (.iload_n 1, 1) := by decide +kernel
theorem dX12_days_16 : decode cX12_days 16 = .ok (.if_icmp .ge 24, 3) := by decide +kernel
theorem dX12_days_19 : decode cX12_days 19 = .ok (.aload_n 0, 1) := by decide +kernel
theorem dX12_days_20 : decode cX12_days 20 = .ok (.getfield 16, 3) := by decide +kernel
theorem dX12_days_23 : decode cX12_days 23 = .ok (.iconst 0, 1) := by decide +kernel
theorem dX12_days_24 : decode cX12_days 24 = .ok (.iaload, 1) := by decide +kernel
theorem dX12_days_25 : decode cX12_days 25 = .ok (.bipush 50, 2) := by decide +kernel
theorem dX12_days_27 : decode cX12_days 27 = .ok (.if_icmp .ge 13, 3) := by decide +kernel
theorem dX12_days_30 : decode cX12_days 30 = .ok (.aload_n 0, 1) := by decide +kernel
theorem dX12_days_31 : decode cX12_days 31 = .ok (.invokevirtual 232, 3) := by decide +kernel
theorem dX12_days_34 : decode cX12_days 34 = .ok (.iinc 2 1, 3) := by decide +kernel
theorem dX12_days_37 : decode cX12_days 37 = .ok (.goto (-23), 3) := by decide +kernel
theorem dX12_days_40 : decode cX12_days 40 = .ok (.aload_n 0, 1) := by decide +kernel
theorem dX12_days_41 : decode cX12_days 41 = .ok (.getfield 16, 3) := by decide +kernel
theorem dX12_days_44 : decode cX12_days 44 = .ok (.iconst 0, 1) := by decide +kernel
theorem dX12_days_45 : decode cX12_days 45 = .ok (.iaload, 1) := by decide +kernel
theorem dX12_days_46 : decode cX12_days 46 = .ok (.ireturn, 1) := by decide +kernel
set_option maxRecDepth 20000 in
theorem ggX12_swaps_X12_its : GoodIn wsX12_swaps wsX12_its := goodIn_r _ [5, 6, 7, 12, 13, 14, 15, 16, 17, 18, 19, 20, 21, 22, 23, 24, 25, 26, 27, 28, 29, 30, 31, 32, 33, 34, 35, 36, 37, 38, 39, 40, 41, 42, 43, 44, 45, 46, 47, 48, 49, 50] (by decide +kernel) (by decide +kernel)
set_option maxRecDepth 20000 in
theorem gX12_swaps_X12_its : GoodIn wsX12_swaps (wsV RX12 207 RX12 yX12_its wsX12_its) := goodIn_app (goodIn_of _ (by decide +kernel)) ggX12_swaps_X12_its
set_option maxRecDepth 20000 in
theorem ggX12_swaps_X12_becomes : GoodIn wsX12_swaps wsX12_becomes := goodIn_r _ [11, 6, 7, 12, 13, 14, 15, 16, 17, 18, 19, 20, 21, 22, 23, 24, 25, 26, 27, 28, 29, 30, 31, 32, 33, 34, 35, 36, 37, 38, 39, 40, 41, 42, 43, 44, 45, 46, 47, 48, 49, 50] (by decide +kernel) (by decide +kernel)
set_option maxRecDepth 20000 in
theorem gX12_swaps_X12_becomes : GoodIn wsX12_swaps (wsV RX12 194 RX12 yX12_becomes wsX12_becomes) := goodIn_app (goodIn_of _ (by decide +kernel)) ggX12_swaps_X12_becomes
theorem dX12_swaps_0 : decode cX12_swaps 0 = .ok (.aload_n 0, 1) := by decide +kernel
theorem dX12_swaps_1 : decode cX12_swaps 1 = .ok (.iload_n 1, 1) := by decide +kernel
theorem dX12_swaps_2 : decode cX12_swaps 2 = .ok (.iload_n 2, 1) := by decide +kernel
theorem dX12_swaps_3 : decode cX12_swaps 3 = .ok (.invokevirtual 207, 3) := by decide +kernel
theorem dX12_swaps_6 : decode cX12_swaps 6 = .ok (.istore 4, 2) := by decide +kernel
theorem dX12_swaps_8 : decode cX12_swaps 8 = .ok (.aload_n 0, 1) := by decide +kernel
theorem dX12_swaps_9 : decode cX12_swaps 9 = .ok (.iload_n 1, 1) := by decide +kernel
theorem dX12_swaps_10 : decode cX12_swaps 10 = .ok (.iload_n 2, 1) := by decide +kernel
theorem dX12_swaps_11 : decode cX12_swaps 11 = .ok (.aload_n 0, 1) := by decide +kernel
theorem dX12_swaps_12 : decode cX12_swaps 12 = .ok (.iload_n 1, 1) := by decide +kernel
theorem dX12_swaps_13 : decode cX12_swaps 13 = .ok (.iload_n 3, 1) := by decide +kernel
theorem dX12_swaps_14 : decode cX12_swaps 14 = .ok (.invokevirtual 207, 3) := by decide +kernel
theorem dX12_swaps_17 : decode cX12_swaps 17 = .ok (.invokevirtual 194, 3) := by decide +kernel
theorem dX12_swaps_20 : decode cX12_swaps 20 = .ok (.aload_n 0, 1) := by decide +kernel
theorem dX12_swaps_21 : decode cX12_swaps 21 = .ok (.iload_n 1, 1) := by decide +kernel
theorem dX12_swaps_22 : decode cX12_swaps 22 = .ok (.iload_n 3, 1) := by decide +kernel
theorem dX12_swaps_23 : decode cX12_swaps 23 = .ok (.iload 4, 2) := by decide +kernel
theorem dX12_swaps_25 : decode cX12_swaps 25 = .ok (.invokevirtual 194, 3) := by decide +kernel
theorem dX12_swaps_28 : decode cX12_swaps 28 = .ok (.return_, 1) := by decide +kernel
set_option maxRecDepth 20000 in
theorem ggX12_turns_X12_its : GoodIn wsX12_turns wsX12_its := goodIn_r _ [5, 6, 7, 16, 17, 18, 19, 20, 21, 22, 23, 24, 25, 26, 27, 28, 29, 30, 31, 32, 33, 34, 35, 36, 37, 38, 39, 40, 41, 42, 43, 44, 45, 46, 47, 48, 49, 50, 51, 52, 53, 54] (by decide +kernel) (by decide +kernel)
set_option maxRecDepth 20000 in
theorem gX12_turns_X12_its : GoodIn wsX12_turns (wsV RX12 207 RX12 yX12_its wsX12_its) := goodIn_app (goodIn_of _ (by decide +kernel)) ggX12_turns_X12_its
set_option maxRecDepth 20000 in
theorem ggX12_turns_X12_swaps : GoodIn wsX12_turns wsX12_swaps := goodIn_r _ [11, 1, 2, 3, 4, 5, 6, 7, 12, 13, 14, 15, 16, 17, 18, 19, 20, 21, 22, 23, 24, 25, 26, 27, 28, 29, 30, 31, 32, 33, 34, 35, 36, 37, 38, 39, 40, 41, 42, 43, 44, 45, 46, 47, 48, 49, 50, 51, 52, 53, 54] (by decide +kernel) (by decide +kernel)
set_option maxRecDepth 20000 in
theorem gX12_turns_X12_swaps : GoodIn wsX12_turns (wsV RX12 235 RX12 yX12_swaps wsX12_swaps) := goodIn_app (goodIn_of _ (by decide +kernel)) ggX12_turns_X12_swaps
theorem dX12_turns_0 : decode cX12_turns 0 = .ok (.aload_n 0, 1) := by decide +kernel
theorem dX12_turns_1 : decode cX12_turns 1 = .ok (.iload_n 1, 1) := by decide +kernel
theorem dX12_turns_2 : decode cX12_turns 2 = .ok (.iconst 1, 1) := by decide +kernel
theorem dX12_turns_3 : decode cX12_turns 3 = .ok (.invokevirtual 207, 3) := by decide +kernel
theorem dX12_turns_6 : decode cX12_turns 6 = .ok (.istore_n 2, 1) := by decide +kernel
theorem dX12_turns_7 : decode cX12_turns 7 = .ok (.iconst 0, 1) := by decide +kernel
theorem dX12_turns_8 : decode cX12_turns 8 = .ok (.istore_n 3, 1) := by decide +kernel
theorem dX12_turns_9 : decode cX12_turns 9 = .ok (.iload_n 3, 1) := by decide +kernel
theorem dX12_turns_10 : decode cX12_turns 10 = .ok (.iload_n 2, 1) := by decide +kernel
theorem dX12_turns_11 : decode cX12_turns 11 = .ok (.iconst 2, 1) := by decide +kernel
theorem dX12_turns_12 : decode cX12_turns 12 = .ok (.idiv, 1) := by decide +kernel
theorem dX12_turns_13 : decode cX12_turns 13 = .ok (.if_icmp .ge 24, 3) := by decide +kernel
theorem dX12_turns_16 : decode cX12_turns 16 = .ok (.aload_n 0, 1) := by decide +kernel
theorem dX12_turns_17 : decode cX12_turns 17 = .ok (.iload_n 1, 1) := by decide +kernel
theorem dX12_turns_18 : decode cX12_turns 18 = .ok (.iconst 3, 1) := by decide +kernel
theorem dX12_turns_19 : decode cX12_turns 19 = .ok (.iload_n 3, 1) := by decide +kernel
theorem dX12_turns_20 : decode cX12_turns 20 = .ok (.iadd, 1) := by decide +kernel
theorem dX12_turns_21 : decode cX12_turns 21 = .ok (.iconst 3, 1) := by decide +kernel
theorem dX12_turns_22 : decode cX12_turns 22 = .ok (.iload_n 2, 1) := by decide +kernel
theorem dX12_turns_23 : decode cX12_turns 23 = .ok (.iadd, 1) := by decide +kernel
theorem dX12_turns_24 : decode cX12_turns 24 = .ok (.iconst 1, 1) := by decide +kernel
theorem dX12_turns_25 : decode cX12_turns 25 = .ok (.isub, 1) := by decide +kernel
theorem dX12_turns_26 : decode cX12_turns 26 = .ok (.iload_n 3, 1) := by decide +kernel
theorem dX12_turns_27 : decode cX12_turns 27 = .ok (.isub, 1) := by decide +kernel
theorem dX12_turns_28 : decode cX12_turns 28 = .ok (.invokevirtual 235, 3) := by decide +kernel
theorem dX12_turns_31 : decode cX12_turns 31 = .ok (.iinc 3 1, 3) := by decide +kernel
theorem dX12_turns_34 : decode cX12_turns 34 = .ok (.goto (-25), 3) := by decide +kernel
theorem dX12_turns_37 : decode cX12_turns 37 = .ok (.return_, 1) := by decide +kernel
set_option maxRecDepth 20000 in
theorem ggX12_turn_X12_isPane : GoodIn wsX12_turn wsX12_isPane := goodIn_r _ [5, 6, 7, 8, 4, 9, 40, 41, 42, 43, 44, 45, 46, 47, 48, 49, 50, 51, 52, 53, 54, 55, 56, 57, 58, 59, 60, 61, 62, 63, 64, 65, 66, 67, 68, 69, 70, 71, 72, 73, 74, 75, 76, 77, 78] (by decide +kernel) (by decide +kernel)
set_option maxRecDepth 20000 in
theorem gX12_turn_X12_isPane : GoodIn wsX12_turn (wsV RX12 216 RX12 yX12_isPane wsX12_isPane) := goodIn_app (goodIn_of _ (by decide +kernel)) ggX12_turn_X12_isPane
set_option maxRecDepth 20000 in
theorem ggX12_turn_X12_turns : GoodIn wsX12_turn wsX12_turns := goodIn_r _ [13, 14, 15, 16, 4, 17, 6, 18, 19, 20, 21, 22, 23, 24, 25, 26, 40, 41, 42, 43, 44, 45, 46, 47, 48, 49, 50, 51, 52, 53, 54, 55, 56, 57, 58, 59, 60, 61, 62, 63, 64, 65, 66, 67, 68, 69, 70, 71, 72, 73, 74, 75, 76, 77, 78] (by decide +kernel) (by decide +kernel)
set_option maxRecDepth 20000 in
theorem gX12_turn_X12_turns : GoodIn wsX12_turn (wsV RX12 238 RX12 yX12_turns wsX12_turns) := goodIn_app (goodIn_of _ (by decide +kernel)) ggX12_turn_X12_turns
set_option maxRecDepth 20000 in
theorem ggX12_turn_X12_shown : GoodIn wsX12_turn wsX12_shown := goodIn_r _ [30, 14, 15, 16, 4, 17, 6, 18, 31, 32, 33, 34, 35, 36, 37, 38, 39, 40, 41, 42, 43, 44, 45, 46, 47, 48, 49, 50, 51, 52, 53, 54, 55, 56, 57, 58, 59, 60, 61, 62, 63, 64, 65, 66, 67, 68, 69, 70, 71, 72, 73, 74, 75, 76, 77, 78] (by decide +kernel) (by decide +kernel)
set_option maxRecDepth 20000 in
theorem gX12_turn_X12_shown : GoodIn wsX12_turn (wsV RX12 222 RX12 yX12_shown wsX12_shown) := goodIn_app (goodIn_of _ (by decide +kernel)) ggX12_turn_X12_shown
theorem dX12_turn_0 : decode cX12_turn 0 = .ok (.aload_n 0, 1) := by decide +kernel
theorem dX12_turn_1 : decode cX12_turn 1 = .ok (.iload_n 1, 1) := by decide +kernel
theorem dX12_turn_2 : decode cX12_turn 2 = .ok (.invokevirtual 216, 3) := by decide +kernel
theorem dX12_turn_5 : decode cX12_turn 5 = .ok (.ifCond .ne 5, 3) := by decide +kernel
theorem dX12_turn_8 : decode cX12_turn 8 = .ok (.iconst (-1), 1) := by decide +kernel
theorem dX12_turn_9 : decode cX12_turn 9 = .ok (.ireturn, 1) := by decide +kernel
theorem dX12_turn_10 : decode cX12_turn 10 = .ok (.aload_n 0, 1) := by decide +kernel
theorem dX12_turn_11 : decode cX12_turn 11 = .ok (.iload_n 1, 1) := by decide +kernel
theorem dX12_turn_12 : decode cX12_turn 12 = .ok (.invokevirtual 238, 3) := by decide +kernel
theorem dX12_turn_15 : decode cX12_turn 15 = .ok (.aload_n 0, 1) := by decide +kernel
theorem dX12_turn_16 : decode cX12_turn 16 = .ok (.iload_n 1, 1) := by decide +kernel
theorem dX12_turn_17 : decode cX12_turn 17 = .ok (.invokevirtual 222, 3) := by decide +kernel
theorem dX12_turn_20 : decode cX12_turn 20 = .ok (.ireturn, 1) := by decide +kernel
set_option maxRecDepth 20000 in
theorem ggX12_cuts_X12_its : GoodIn wsX12_cuts wsX12_its := goodIn_r _ [5, 6, 7, 16, 17, 18, 19, 20, 21, 22, 23, 24, 25, 26, 27, 28, 29, 30, 31, 32, 33, 34, 35, 36, 37, 38, 39, 40, 41, 42, 43, 44, 45, 46, 47, 48, 49, 50, 51, 52, 53, 54] (by decide +kernel) (by decide +kernel)
set_option maxRecDepth 20000 in
theorem gX12_cuts_X12_its : GoodIn wsX12_cuts (wsV RX12 207 RX12 yX12_its wsX12_its) := goodIn_app (goodIn_of _ (by decide +kernel)) ggX12_cuts_X12_its
set_option maxRecDepth 20000 in
theorem ggX12_cuts_X12_makes : GoodIn wsX12_cuts wsX12_makes := goodIn_r _ [11, 12, 13, 14, 4, 15, 6, 7, 16, 17, 18, 19, 20, 21, 22, 23, 24, 25, 26, 27, 28, 29, 30, 31, 32, 33, 34, 35, 36, 37, 38, 39, 40, 41, 42, 43, 44, 45, 46, 47, 48, 49, 50, 51, 52, 53, 54] (by decide +kernel) (by decide +kernel)
set_option maxRecDepth 20000 in
theorem gX12_cuts_X12_makes : GoodIn wsX12_cuts (wsV RX12 187 RX12 yX12_makes wsX12_makes) := goodIn_app (goodIn_of _ (by decide +kernel)) ggX12_cuts_X12_makes
set_option maxRecDepth 20000 in
theorem ggX12_cuts_X12_becomes : GoodIn wsX12_cuts wsX12_becomes := goodIn_r _ [15, 6, 7, 16, 17, 18, 19, 20, 21, 22, 23, 24, 25, 26, 27, 28, 29, 30, 31, 32, 33, 34, 35, 36, 37, 38, 39, 40, 41, 42, 43, 44, 45, 46, 47, 48, 49, 50, 51, 52, 53, 54] (by decide +kernel) (by decide +kernel)
set_option maxRecDepth 20000 in
theorem gX12_cuts_X12_becomes : GoodIn wsX12_cuts (wsV RX12 194 RX12 yX12_becomes wsX12_becomes) := goodIn_app (goodIn_of _ (by decide +kernel)) ggX12_cuts_X12_becomes
theorem dX12_cuts_0 : decode cX12_cuts 0 = .ok (.aload_n 0, 1) := by decide +kernel
theorem dX12_cuts_1 : decode cX12_cuts 1 = .ok (.iload_n 1, 1) := by decide +kernel
theorem dX12_cuts_2 : decode cX12_cuts 2 = .ok (.iconst 1, 1) := by decide +kernel
theorem dX12_cuts_3 : decode cX12_cuts 3 = .ok (.invokevirtual 207, 3) := by decide +kernel
theorem dX12_cuts_6 : decode cX12_cuts 6 = .ok (.istore 4, 2) := by decide +kernel
theorem dX12_cuts_8 : decode cX12_cuts 8 = .ok (.aload_n 0, 1) := by decide +kernel
theorem dX12_cuts_9 : decode cX12_cuts 9 = .ok (.iload_n 3, 1) := by decide +kernel
theorem dX12_cuts_10 : decode cX12_cuts 10 = .ok (.iconst 0, 1) := by decide +kernel
theorem dX12_cuts_11 : decode cX12_cuts 11 = .ok (.iload 4, 2) := by decide +kernel
theorem dX12_cuts_13 : decode cX12_cuts 13 = .ok (.iload_n 2, 1) := by decide +kernel
theorem dX12_cuts_14 : decode cX12_cuts 14 = .ok (.isub, 1) := by decide +kernel
theorem dX12_cuts_15 : decode cX12_cuts 15 = .ok (.iconst 4, 1) := by decide +kernel
theorem dX12_cuts_16 : decode cX12_cuts 16 = .ok (.invokevirtual 187, 3) := by decide +kernel
theorem dX12_cuts_19 : decode cX12_cuts 19 = .ok (.iload_n 2, 1) := by decide +kernel
theorem dX12_cuts_20 : decode cX12_cuts 20 = .ok (.istore 5, 2) := by decide +kernel
theorem dX12_cuts_22 : decode cX12_cuts 22 = .ok (.iload 5, 2) := by decide +kernel
theorem dX12_cuts_24 : decode cX12_cuts 24 = .ok (.iload 4, 2) := by decide +kernel
theorem dX12_cuts_26 : decode cX12_cuts 26 = .ok (.if_icmp .ge 29, 3) := by decide +kernel
theorem dX12_cuts_29 : decode cX12_cuts 29 = .ok (.aload_n 0, 1) := by decide +kernel
theorem dX12_cuts_30 : decode cX12_cuts 30 = .ok (.iload_n 3, 1) := by decide +kernel
theorem dX12_cuts_31 : decode cX12_cuts 31 = .ok (.iconst 3, 1) := by decide +kernel
theorem dX12_cuts_32 : decode cX12_cuts 32 = .ok (.iload 5, 2) := by decide +kernel
theorem dX12_cuts_34 : decode cX12_cuts 34 = .ok (.iadd, 1) := by decide +kernel
theorem dX12_cuts_35 : decode cX12_cuts 35 = .ok (.iload_n 2, 1) := by decide +kernel
theorem dX12_cuts_36 : decode cX12_cuts 36 = .ok (.isub, 1) := by decide +kernel
theorem dX12_cuts_37 : decode cX12_cuts 37 = .ok (.aload_n 0, 1) := by decide +kernel
theorem dX12_cuts_38 : decode cX12_cuts 38 = .ok (.iload_n 1, 1) := by decide +kernel
theorem dX12_cuts_39 : decode cX12_cuts 39 = .ok (.iconst 3, 1) := by decide +kernel
theorem dX12_cuts_40 : decode cX12_cuts 40 = .ok (.iload 5, 2) := by decide +kernel
theorem dX12_cuts_42 : decode cX12_cuts 42 = .ok (.iadd, 1) := by decide +kernel
theorem dX12_cuts_43 : decode cX12_cuts 43 = .ok (.invokevirtual 207, 3) := by decide +kernel
theorem dX12_cuts_46 : decode cX12_cuts 46 = .ok (.invokevirtual 194, 3) := by decide +kernel
theorem dX12_cuts_49 : decode cX12_cuts 49 = .ok (.iinc 5 1, 3) := by decide +kernel
theorem dX12_cuts_52 : decode cX12_cuts 52 = .ok (.goto (-30), 3) := by decide +kernel
theorem dX12_cuts_55 : decode cX12_cuts 55 = .ok (.aload_n 0, 1) := by decide +kernel
theorem dX12_cuts_56 : decode cX12_cuts 56 = .ok (.iload_n 1, 1) := by decide +kernel
theorem dX12_cuts_57 : decode cX12_cuts 57 = .ok (.iconst 1, 1) := by decide +kernel
theorem dX12_cuts_58 : decode cX12_cuts 58 = .ok (.iload_n 2, 1) := by decide +kernel
theorem dX12_cuts_59 : decode cX12_cuts 59 = .ok (.invokevirtual 194, 3) := by decide +kernel
theorem dX12_cuts_62 : decode cX12_cuts 62 = .ok (.return_, 1) := by decide +kernel
set_option maxRecDepth 20000 in
theorem ggX12_cut_X12_isPane : GoodIn wsX12_cut wsX12_isPane := goodIn_r _ [6, 1, 7, 8, 5, 9, 27, 28, 29, 30, 31, 32, 33, 34, 35, 36, 37, 38, 39, 40, 41, 42, 43, 44, 45, 46, 47, 48, 49, 50, 51, 52, 53, 54, 55, 56, 57, 58, 59, 60, 61, 62, 63, 64, 65] (by decide +kernel) (by decide +kernel)
set_option maxRecDepth 20000 in
theorem gX12_cut_X12_isPane : GoodIn wsX12_cut (wsV RX12 216 RX12 yX12_isPane wsX12_isPane) := goodIn_app (goodIn_of _ (by decide +kernel)) ggX12_cut_X12_isPane
set_option maxRecDepth 20000 in
theorem ggX12_cut_X12_its : GoodIn wsX12_cut wsX12_its := goodIn_r _ [13, 1, 14, 27, 28, 29, 30, 31, 32, 33, 34, 35, 36, 37, 38, 39, 40, 41, 42, 43, 44, 45, 46, 47, 48, 49, 50, 51, 52, 53, 54, 55, 56, 57, 58, 59, 60, 61, 62, 63, 64, 65] (by decide +kernel) (by decide +kernel)
set_option maxRecDepth 20000 in
theorem gX12_cut_X12_its : GoodIn wsX12_cut (wsV RX12 207 RX12 yX12_its wsX12_its) := goodIn_app (goodIn_of _ (by decide +kernel)) ggX12_cut_X12_its
set_option maxRecDepth 20000 in
theorem ggX12_cut_X12_cuts : GoodIn wsX12_cut wsX12_cuts := goodIn_r _ [18, 10, 11, 12, 5, 13, 1, 14, 19, 20, 21, 22, 23, 24, 25, 26, 27, 28, 29, 30, 31, 32, 33, 34, 35, 36, 37, 38, 39, 40, 41, 42, 43, 44, 45, 46, 47, 48, 49, 50, 51, 52, 53, 54, 55, 56, 57, 58, 59, 60, 61, 62, 63, 64, 65] (by decide +kernel) (by decide +kernel)
set_option maxRecDepth 20000 in
theorem gX12_cut_X12_cuts : GoodIn wsX12_cut (wsV RX12 241 RX12 yX12_cuts wsX12_cuts) := goodIn_app (goodIn_of _ (by decide +kernel)) ggX12_cut_X12_cuts
theorem dX12_cut_0 : decode cX12_cut 0 = .ok (.aload_n 0, 1) := by decide +kernel
theorem dX12_cut_1 : decode cX12_cut 1 = .ok (.iload_n 1, 1) := by decide +kernel
theorem dX12_cut_2 : decode cX12_cut 2 = .ok (.invokevirtual 216, 3) := by decide +kernel
theorem dX12_cut_5 : decode cX12_cut 5 = .ok (.ifCond .eq 8, 3) := by decide +kernel
theorem dX12_cut_8 : decode cX12_cut 8 = .ok (.iload_n 2, 1) := by decide +kernel
theorem dX12_cut_9 : decode cX12_cut 9 = .ok (.iconst 1, 1) := by decide +kernel
theorem dX12_cut_10 : decode cX12_cut 10 = .ok (.if_icmp .ge 5, 3) := by decide +kernel
theorem dX12_cut_13 : decode cX12_cut 13 = .ok (.iconst (-1), 1) := by decide +kernel
theorem dX12_cut_14 : decode cX12_cut 14 = .ok (.ireturn, 1) := by decide +kernel
theorem dX12_cut_15 : decode cX12_cut 15 = .ok (.aload_n 0, 1) := by decide +kernel
theorem dX12_cut_16 : decode cX12_cut 16 = .ok (.iload_n 1, 1) := by decide +kernel
theorem dX12_cut_17 : decode cX12_cut 17 = .ok (.iconst 1, 1) := by decide +kernel
theorem dX12_cut_18 : decode cX12_cut 18 = .ok (.invokevirtual 207, 3) := by decide +kernel
theorem dX12_cut_21 : decode cX12_cut 21 = .ok (.iload_n 2, 1) := by decide +kernel
theorem dX12_cut_22 : decode cX12_cut 22 = .ok (.if_icmp .gt 6, 3) := by decide +kernel
theorem dX12_cut_25 : decode cX12_cut 25 = .ok (.bipush (-4), 2) := by decide +kernel
theorem dX12_cut_27 : decode cX12_cut 27 = .ok (.ireturn, 1) := by decide +kernel
theorem dX12_cut_28 : decode cX12_cut 28 = .ok (.aload_n 0, 1) := by decide +kernel
theorem dX12_cut_29 : decode cX12_cut 29 = .ok (.getfield 16, 3) := by decide +kernel
theorem dX12_cut_32 : decode cX12_cut 32 = .ok (.iconst 1, 1) := by decide +kernel
theorem dX12_cut_33 : decode cX12_cut 33 = .ok (.iaload, 1) := by decide +kernel
theorem dX12_cut_34 : decode cX12_cut 34 = .ok (.bipush 6, 2) := by decide +kernel
theorem dX12_cut_36 : decode cX12_cut 36 = .ok (.if_icmp .ne 6, 3) := by decide +kernel
theorem dX12_cut_39 : decode cX12_cut 39 = .ok (.bipush (-2), 2) := by decide +kernel
theorem dX12_cut_41 : decode cX12_cut 41 = .ok (.ireturn, 1) := by decide +kernel
theorem dX12_cut_42 : decode cX12_cut 42 = .ok (.aload_n 0, 1) := by decide +kernel
theorem dX12_cut_43 : decode cX12_cut 43 = .ok (.iload_n 1, 1) := by decide +kernel
theorem dX12_cut_44 : decode cX12_cut 44 = .ok (.iload_n 2, 1) := by decide +kernel
theorem dX12_cut_45 : decode cX12_cut 45 = .ok (.aload_n 0, 1) := by decide +kernel
theorem dX12_cut_46 : decode cX12_cut 46 = .ok (.getfield 16, 3) := by decide +kernel
theorem dX12_cut_49 : decode cX12_cut 49 = .ok (.iconst 1, 1) := by decide +kernel
theorem dX12_cut_50 : decode cX12_cut 50 = .ok (.iaload, 1) := by decide +kernel
theorem dX12_cut_51 : decode cX12_cut 51 = .ok (.invokevirtual 241, 3) := by decide +kernel
theorem dX12_cut_54 : decode cX12_cut 54 = .ok (.aload_n 0, 1) := by decide +kernel
theorem dX12_cut_55 : decode cX12_cut 55 = .ok (.getfield 16, 3) := by decide +kernel
theorem dX12_cut_58 : decode cX12_cut 58 = .ok (.iconst 1, 1) := by decide +kernel
theorem dX12_cut_59 : decode cX12_cut 59 = .ok (.dup2, 1) := by decide +kernel
theorem dX12_cut_60 : decode cX12_cut 60 = .ok (.iaload, 1) := by decide +kernel
theorem dX12_cut_61 : decode cX12_cut 61 = .ok (.iconst 1, 1) := by decide +kernel
theorem dX12_cut_62 : decode cX12_cut 62 = .ok (.iadd, 1) := by decide +kernel
theorem dX12_cut_63 : decode cX12_cut 63 = .ok (.iastore, 1) := by decide +kernel
theorem dX12_cut_64 : decode cX12_cut 64 = .ok (.aload_n 0, 1) := by decide +kernel
theorem dX12_cut_65 : decode cX12_cut 65 = .ok (.getfield 16, 3) := by decide +kernel
theorem dX12_cut_68 : decode cX12_cut 68 = .ok (.iconst 1, 1) := by decide +kernel
theorem dX12_cut_69 : decode cX12_cut 69 = .ok (.iaload, 1) := by decide +kernel
theorem dX12_cut_70 : decode cX12_cut 70 = .ok (.iconst 1, 1) := by decide +kernel
theorem dX12_cut_71 : decode cX12_cut 71 = .ok (.isub, 1) := by decide +kernel
theorem dX12_cut_72 : decode cX12_cut 72 = .ok (.ireturn, 1) := by decide +kernel
theorem dX12_goes_0 : decode cX12_goes 0 = .ok (.aload_n 0, 1) := by decide +kernel
theorem dX12_goes_1 : decode cX12_goes 1 = .ok (.getfield 16, 3) := by decide +kernel
theorem dX12_goes_4 : decode cX12_goes 4 = .ok (.iconst 1, 1) := by decide +kernel
theorem dX12_goes_5 : decode cX12_goes 5 = .ok (.dup2, 1) := by decide +kernel
theorem dX12_goes_6 : decode cX12_goes 6 = .ok (.iaload, 1) := by decide +kernel
theorem dX12_goes_7 : decode cX12_goes 7 = .ok (.iconst 1, 1) := by decide +kernel
theorem dX12_goes_8 : decode cX12_goes 8 = .ok (.isub, 1) := by decide +kernel
theorem dX12_goes_9 : decode cX12_goes 9 = .ok (.iastore, 1) := by decide +kernel
theorem dX12_goes_10 : decode cX12_goes 10 = .ok (.iconst 2, 1) := by decide +kernel
theorem dX12_goes_11 : decode cX12_goes 11 = .ok (.bipush 19, 2) := by decide +kernel
theorem dX12_goes_13 : decode cX12_goes 13 = .ok (.iload_n 1, 1) := by decide +kernel
theorem dX12_goes_14 : decode cX12_goes 14 = .ok (.imul, 1) := by decide +kernel
theorem dX12_goes_15 : decode cX12_goes 15 = .ok (.iadd, 1) := by decide +kernel
theorem dX12_goes_16 : decode cX12_goes 16 = .ok (.istore_n 2, 1) := by decide +kernel
theorem dX12_goes_17 : decode cX12_goes 17 = .ok (.iload_n 2, 1) := by decide +kernel
theorem dX12_goes_18 : decode cX12_goes 18 = .ok (.iconst 2, 1) := by decide +kernel
theorem dX12_goes_19 : decode cX12_goes 19 = .ok (.bipush 19, 2) := by decide +kernel
theorem dX12_goes_21 : decode cX12_goes 21 = .ok (.aload_n 0, 1) := by decide +kernel
theorem dX12_goes_22 : decode cX12_goes 22 = .ok (.getfield 16, 3) := by decide +kernel
theorem dX12_goes_25 : decode cX12_goes 25 = .ok (.iconst 1, 1) := by decide +kernel
theorem dX12_goes_26 : decode cX12_goes 26 = .ok (.iaload, 1) := by decide +kernel
theorem dX12_goes_27 : decode cX12_goes 27 = .ok (.imul, 1) := by decide +kernel
theorem dX12_goes_28 : decode cX12_goes 28 = .ok (.iadd, 1) := by decide +kernel
theorem dX12_goes_29 : decode cX12_goes 29 = .ok (.if_icmp .ge 24, 3) := by decide +kernel
theorem dX12_goes_32 : decode cX12_goes 32 = .ok (.aload_n 0, 1) := by decide +kernel
theorem dX12_goes_33 : decode cX12_goes 33 = .ok (.getfield 16, 3) := by decide +kernel
theorem dX12_goes_36 : decode cX12_goes 36 = .ok (.iload_n 2, 1) := by decide +kernel
theorem dX12_goes_37 : decode cX12_goes 37 = .ok (.aload_n 0, 1) := by decide +kernel
theorem dX12_goes_38 : decode cX12_goes 38 = .ok (.getfield 16, 3) := by decide +kernel
theorem dX12_goes_41 : decode cX12_goes 41 = .ok (.iload_n 2, 1) := by decide +kernel
theorem dX12_goes_42 : decode cX12_goes 42 = .ok (.bipush 19, 2) := by decide +kernel
theorem dX12_goes_44 : decode cX12_goes 44 = .ok (.iadd, 1) := by decide +kernel
theorem dX12_goes_45 : decode cX12_goes 45 = .ok (.iaload, 1) := by decide +kernel
theorem dX12_goes_46 : decode cX12_goes 46 = .ok (.iastore, 1) := by decide +kernel
theorem dX12_goes_47 : decode cX12_goes 47 = .ok (.iinc 2 1, 3) := by decide +kernel
theorem dX12_goes_50 : decode cX12_goes 50 = .ok (.goto (-33), 3) := by decide +kernel
theorem dX12_goes_53 : decode cX12_goes 53 = .ok (.return_, 1) := by decide +kernel
set_option maxRecDepth 20000 in
theorem ggX12_lay_X12_isPane : GoodIn wsX12_lay wsX12_isPane := goodIn_r _ [5, 6, 7, 8, 4, 9, 23, 24, 25, 26, 27, 28, 29, 30, 31, 32, 33, 34, 35, 36, 37, 38, 39, 40, 41, 42, 43, 44, 45, 46, 47, 48, 49, 50, 51, 52, 53, 54, 55, 56, 57, 58, 59, 60, 61] (by decide +kernel) (by decide +kernel)
set_option maxRecDepth 20000 in
theorem gX12_lay_X12_isPane : GoodIn wsX12_lay (wsV RX12 216 RX12 yX12_isPane wsX12_isPane) := goodIn_app (goodIn_of _ (by decide +kernel)) ggX12_lay_X12_isPane
set_option maxRecDepth 20000 in
theorem ggX12_lay_X12_its : GoodIn wsX12_lay wsX12_its := goodIn_r _ [13, 6, 14, 23, 24, 25, 26, 27, 28, 29, 30, 31, 32, 33, 34, 35, 36, 37, 38, 39, 40, 41, 42, 43, 44, 45, 46, 47, 48, 49, 50, 51, 52, 53, 54, 55, 56, 57, 58, 59, 60, 61] (by decide +kernel) (by decide +kernel)
set_option maxRecDepth 20000 in
theorem gX12_lay_X12_its : GoodIn wsX12_lay (wsV RX12 207 RX12 yX12_its wsX12_its) := goodIn_app (goodIn_of _ (by decide +kernel)) ggX12_lay_X12_its
set_option maxRecDepth 20000 in
theorem ggX12_lay_X12_becomes : GoodIn wsX12_lay wsX12_becomes := goodIn_r _ [18, 6, 14, 23, 24, 25, 26, 27, 28, 29, 30, 31, 32, 33, 34, 35, 36, 37, 38, 39, 40, 41, 42, 43, 44, 45, 46, 47, 48, 49, 50, 51, 52, 53, 54, 55, 56, 57, 58, 59, 60, 61] (by decide +kernel) (by decide +kernel)
set_option maxRecDepth 20000 in
theorem gX12_lay_X12_becomes : GoodIn wsX12_lay (wsV RX12 194 RX12 yX12_becomes wsX12_becomes) := goodIn_app (goodIn_of _ (by decide +kernel)) ggX12_lay_X12_becomes
set_option maxRecDepth 20000 in
theorem ggX12_lay_X12_goes : GoodIn wsX12_lay wsX12_goes := goodIn_r _ [22, 6, 23, 24, 25, 26, 27, 28, 29, 30, 31, 32, 33, 34, 35, 36, 37, 38, 39, 40, 41, 42, 43, 44, 45, 46, 47, 48, 49, 50, 51, 52, 53, 54, 55, 56, 57, 58, 59, 60, 61] (by decide +kernel) (by decide +kernel)
set_option maxRecDepth 20000 in
theorem gX12_lay_X12_goes : GoodIn wsX12_lay (wsV RX12 244 RX12 yX12_goes wsX12_goes) := goodIn_app (goodIn_of _ (by decide +kernel)) ggX12_lay_X12_goes
theorem dX12_lay_0 : decode cX12_lay 0 = .ok (.aload_n 0, 1) := by decide +kernel
theorem dX12_lay_1 : decode cX12_lay 1 = .ok (.iload_n 1, 1) := by decide +kernel
theorem dX12_lay_2 : decode cX12_lay 2 = .ok (.invokevirtual 216, 3) := by decide +kernel
theorem dX12_lay_5 : decode cX12_lay 5 = .ok (.ifCond .eq 16, 3) := by decide +kernel
theorem dX12_lay_8 : decode cX12_lay 8 = .ok (.aload_n 0, 1) := by decide +kernel
theorem dX12_lay_9 : decode cX12_lay 9 = .ok (.iload_n 2, 1) := by decide +kernel
theorem dX12_lay_10 : decode cX12_lay 10 = .ok (.invokevirtual 216, 3) := by decide +kernel
theorem dX12_lay_13 : decode cX12_lay 13 = .ok (.ifCond .eq 8, 3) := by decide +kernel
theorem dX12_lay_16 : decode cX12_lay 16 = .ok (.iload_n 1, 1) := by decide +kernel
theorem dX12_lay_17 : decode cX12_lay 17 = .ok (.iload_n 2, 1) := by decide +kernel
theorem dX12_lay_18 : decode cX12_lay 18 = .ok (.if_icmp .ne 5, 3) := by decide +kernel
theorem dX12_lay_21 : decode cX12_lay 21 = .ok (.iconst (-1), 1) := by decide +kernel
theorem dX12_lay_22 : decode cX12_lay 22 = .ok (.ireturn, 1) := by decide +kernel
theorem dX12_lay_23 : decode cX12_lay 23 = .ok (.aload_n 0, 1) := by decide +kernel
theorem dX12_lay_24 : decode cX12_lay 24 = .ok (.iload_n 1, 1) := by decide +kernel
theorem dX12_lay_25 : decode cX12_lay 25 = .ok (.iconst 1, 1) := by decide +kernel
theorem dX12_lay_26 : decode cX12_lay 26 = .ok (.invokevirtual 207, 3) := by decide +kernel
theorem dX12_lay_29 : decode cX12_lay 29 = .ok (.istore_n 3, 1) := by decide +kernel
theorem dX12_lay_30 : decode cX12_lay 30 = .ok (.aload_n 0, 1) := by decide +kernel
theorem dX12_lay_31 : decode cX12_lay 31 = .ok (.iload_n 2, 1) := by decide +kernel
theorem dX12_lay_32 : decode cX12_lay 32 = .ok (.iconst 1, 1) := by decide +kernel
theorem dX12_lay_33 : decode cX12_lay 33 = .ok (.invokevirtual 207, 3) := by decide +kernel
theorem dX12_lay_36 : decode cX12_lay 36 = .ok (.istore 4, 2) := by decide +kernel
theorem dX12_lay_38 : decode cX12_lay 38 = .ok (.iload_n 3, 1) := by decide +kernel
theorem dX12_lay_39 : decode cX12_lay 39 = .ok (.bipush 16, 2) := by decide +kernel
theorem dX12_lay_41 : decode cX12_lay 41 = .ok (.iload 4, 2) := by decide +kernel
theorem dX12_lay_43 : decode cX12_lay 43 = .ok (.isub, 1) := by decide +kernel
theorem dX12_lay_44 : decode cX12_lay 44 = .ok (.if_icmp .le 6, 3) := by decide +kernel
theorem dX12_lay_47 : decode cX12_lay 47 = .ok (.bipush (-2), 2) := by decide +kernel
theorem dX12_lay_49 : decode cX12_lay 49 = .ok (.ireturn, 1) := by decide +kernel
theorem dX12_lay_50 : decode cX12_lay 50 = .ok (.iconst 0, 1) := by decide +kernel
theorem dX12_lay_51 : decode cX12_lay 51 = .ok (.istore 5, 2) := by decide +kernel
theorem dX12_lay_53 : decode cX12_lay 53 = .ok (.iload 5, 2) := by decide +kernel
theorem dX12_lay_55 : decode cX12_lay 55 = .ok (.iload 4, 2) := by decide +kernel
theorem dX12_lay_57 : decode cX12_lay 57 = .ok (.if_icmp .ge 29, 3) := by decide +kernel
theorem dX12_lay_60 : decode cX12_lay 60 = .ok (.aload_n 0, 1) := by decide +kernel
theorem dX12_lay_61 : decode cX12_lay 61 = .ok (.iload_n 1, 1) := by decide +kernel
theorem dX12_lay_62 : decode cX12_lay 62 = .ok (.iconst 3, 1) := by decide +kernel
theorem dX12_lay_63 : decode cX12_lay 63 = .ok (.iload_n 3, 1) := by decide +kernel
theorem dX12_lay_64 : decode cX12_lay 64 = .ok (.iadd, 1) := by decide +kernel
theorem dX12_lay_65 : decode cX12_lay 65 = .ok (.iload 5, 2) := by decide +kernel
theorem dX12_lay_67 : decode cX12_lay 67 = .ok (.iadd, 1) := by decide +kernel
theorem dX12_lay_68 : decode cX12_lay 68 = .ok (.aload_n 0, 1) := by decide +kernel
theorem dX12_lay_69 : decode cX12_lay 69 = .ok (.iload_n 2, 1) := by decide +kernel
theorem dX12_lay_70 : decode cX12_lay 70 = .ok (.iconst 3, 1) := by decide +kernel
theorem dX12_lay_71 : decode cX12_lay 71 = .ok (.iload 5, 2) := by decide +kernel
theorem dX12_lay_73 : decode cX12_lay 73 = .ok (.iadd, 1) := by decide +kernel
theorem dX12_lay_74 : decode cX12_lay 74 = .ok (.invokevirtual 207, 3) := by decide +kernel
theorem dX12_lay_77 : decode cX12_lay 77 = .ok (.invokevirtual 194, 3) := by decide +kernel
theorem dX12_lay_80 : decode cX12_lay 80 = .ok (.iinc 5 1, 3) := by decide +kernel
theorem dX12_lay_83 : decode cX12_lay 83 = .ok (.goto (-30), 3) := by decide +kernel
theorem dX12_lay_86 : decode cX12_lay 86 = .ok (.aload_n 0, 1) := by decide +kernel
theorem dX12_lay_87 : decode cX12_lay 87 = .ok (.iload_n 1, 1) := by decide +kernel
theorem dX12_lay_88 : decode cX12_lay 88 = .ok (.iconst 1, 1) := by decide +kernel
theorem dX12_lay_89 : decode cX12_lay 89 = .ok (.iload_n 3, 1) := by decide +kernel
theorem dX12_lay_90 : decode cX12_lay 90 = .ok (.iload 4, 2) := by decide +kernel
theorem dX12_lay_92 : decode cX12_lay 92 = .ok (.iadd, 1) := by decide +kernel
theorem dX12_lay_93 : decode cX12_lay 93 = .ok (.invokevirtual 194, 3) := by decide +kernel
theorem dX12_lay_96 : decode cX12_lay 96 = .ok (.aload_n 0, 1) := by decide +kernel
theorem dX12_lay_97 : decode cX12_lay 97 = .ok (.iload_n 2, 1) := by decide +kernel
theorem dX12_lay_98 : decode cX12_lay 98 = .ok (.invokevirtual 244, 3) := by decide +kernel
theorem dX12_lay_101 : decode cX12_lay 101 = .ok (.iload_n 2, 1) := by decide +kernel
theorem dX12_lay_102 : decode cX12_lay 102 = .ok (.iload_n 1, 1) := by decide +kernel
theorem dX12_lay_103 : decode cX12_lay 103 = .ok (.if_icmp .ge 9, 3) := by decide +kernel
theorem dX12_lay_106 : decode cX12_lay 106 = .ok (.iload_n 1, 1) := by decide +kernel
theorem dX12_lay_107 : decode cX12_lay 107 = .ok (.iconst 1, 1) := by decide +kernel
theorem dX12_lay_108 : decode cX12_lay 108 = .ok (.isub, 1) := by decide +kernel
theorem dX12_lay_109 : decode cX12_lay 109 = .ok (.goto 4, 3) := by decide +kernel
theorem dX12_lay_112 : decode cX12_lay 112 = .ok (.iload_n 1, 1) := by decide +kernel
theorem dX12_lay_113 : decode cX12_lay 113 = .ok (.ireturn, 1) := by decide +kernel
set_option maxRecDepth 20000 in
theorem ggX12_drop_X12_isPane : GoodIn wsX12_drop wsX12_isPane := goodIn_r _ [6, 1, 7, 8, 5, 9, 14, 15, 16, 17, 18, 19, 20, 21, 22, 23, 24, 25, 26, 27, 28, 29, 30, 31, 32, 33, 34, 35, 36, 37, 38, 39, 40, 41, 42, 43, 44, 45, 46, 47, 48, 49, 50, 51, 52] (by decide +kernel) (by decide +kernel)
set_option maxRecDepth 20000 in
theorem gX12_drop_X12_isPane : GoodIn wsX12_drop (wsV RX12 216 RX12 yX12_isPane wsX12_isPane) := goodIn_app (goodIn_of _ (by decide +kernel)) ggX12_drop_X12_isPane
set_option maxRecDepth 20000 in
theorem ggX12_drop_X12_goes : GoodIn wsX12_drop wsX12_goes := goodIn_r _ [13, 1, 14, 15, 16, 17, 18, 19, 20, 21, 22, 23, 24, 25, 26, 27, 28, 29, 30, 31, 32, 33, 34, 35, 36, 37, 38, 39, 40, 41, 42, 43, 44, 45, 46, 47, 48, 49, 50, 51, 52] (by decide +kernel) (by decide +kernel)
set_option maxRecDepth 20000 in
theorem gX12_drop_X12_goes : GoodIn wsX12_drop (wsV RX12 244 RX12 yX12_goes wsX12_goes) := goodIn_app (goodIn_of _ (by decide +kernel)) ggX12_drop_X12_goes
theorem dX12_drop_0 : decode cX12_drop 0 = .ok (.aload_n 0, 1) := by decide +kernel
theorem dX12_drop_1 : decode cX12_drop 1 = .ok (.iload_n 1, 1) := by decide +kernel
theorem dX12_drop_2 : decode cX12_drop 2 = .ok (.invokevirtual 216, 3) := by decide +kernel
theorem dX12_drop_5 : decode cX12_drop 5 = .ok (.ifCond .ne 5, 3) := by decide +kernel
theorem dX12_drop_8 : decode cX12_drop 8 = .ok (.iconst (-1), 1) := by decide +kernel
theorem dX12_drop_9 : decode cX12_drop 9 = .ok (.ireturn, 1) := by decide +kernel
theorem dX12_drop_10 : decode cX12_drop 10 = .ok (.aload_n 0, 1) := by decide +kernel
theorem dX12_drop_11 : decode cX12_drop 11 = .ok (.iload_n 1, 1) := by decide +kernel
theorem dX12_drop_12 : decode cX12_drop 12 = .ok (.invokevirtual 244, 3) := by decide +kernel
theorem dX12_drop_15 : decode cX12_drop 15 = .ok (.aload_n 0, 1) := by decide +kernel
theorem dX12_drop_16 : decode cX12_drop 16 = .ok (.getfield 16, 3) := by decide +kernel
theorem dX12_drop_19 : decode cX12_drop 19 = .ok (.iconst 1, 1) := by decide +kernel
theorem dX12_drop_20 : decode cX12_drop 20 = .ok (.iaload, 1) := by decide +kernel
theorem dX12_drop_21 : decode cX12_drop 21 = .ok (.ireturn, 1) := by decide +kernel
theorem dX12_lends_0 : decode cX12_lends 0 = .ok (.aload_n 0, 1) := by decide +kernel
theorem dX12_lends_1 : decode cX12_lends 1 = .ok (.iconst 0, 1) := by decide +kernel
theorem dX12_lends_2 : decode cX12_lends 2 = .ok (.putfield 76, 3) := by decide +kernel
theorem dX12_lends_5 : decode cX12_lends 5 = .ok (.iconst 0, 1) := by decide +kernel
theorem dX12_lends_6 : decode cX12_lends 6 = .ok (.istore_n 1, 1) := by decide +kernel
theorem dX12_lends_7 : decode cX12_lends 7 = .ok (.iload_n 1, 1) := by decide +kernel
theorem dX12_lends_8 : decode cX12_lends 8 = .ok (.bipush 116, 2) := by decide +kernel
theorem dX12_lends_10 : decode cX12_lends 10 = .ok (.if_icmp .ge 24, 3) := by decide +kernel
theorem dX12_lends_13 : decode cX12_lends 13 = .ok (.aload_n 0, 1) := by decide +kernel
theorem dX12_lends_14 : decode cX12_lends 14 = .ok (.getfield 16, 3) := by decide +kernel
theorem dX12_lends_17 : decode cX12_lends 17 = .ok (.bipush 116, 2) := by decide +kernel
theorem dX12_lends_19 : decode cX12_lends 19 = .ok (.iload_n 1, 1) := by decide +kernel
theorem dX12_lends_20 : decode cX12_lends 20 = .ok (.iadd, 1) := by decide +kernel
theorem dX12_lends_21 : decode cX12_lends 21 = .ok (.aload_n 0, 1) := by decide +kernel
theorem dX12_lends_22 : decode cX12_lends 22 = .ok (.getfield 16, 3) := by decide +kernel
theorem dX12_lends_25 : decode cX12_lends 25 = .ok (.iload_n 1, 1) := by decide +kernel
theorem dX12_lends_26 : decode cX12_lends 26 = .ok (.iaload, 1) := by decide +kernel
theorem dX12_lends_27 : decode cX12_lends 27 = .ok (.iastore, 1) := by decide +kernel
theorem dX12_lends_28 : decode cX12_lends 28 = .ok (.iinc 1 1, 3) := by decide +kernel
theorem dX12_lends_31 : decode cX12_lends 31 = .ok (.goto (-24), 3) := by decide +kernel
theorem dX12_lends_34 : decode cX12_lends 34 = .ok (.aload_n 0, 1) := by decide +kernel
theorem dX12_lends_35 : decode cX12_lends 35 = .ok (.bipush 116, 2) := by decide +kernel
theorem dX12_lends_37 : decode cX12_lends 37 = .ok (.putfield 76, 3) := by decide +kernel
theorem dX12_lends_40 : decode cX12_lends 40 = .ok (.return_, 1) := by decide +kernel
set_option maxRecDepth 20000 in
theorem ggX12_dark_X12_isPane : GoodIn wsX12_dark wsX12_isPane := goodIn_r _ [7, 1, 8, 9, 6, 10, 38, 39, 40, 41, 42, 43, 44, 45, 46, 47, 48, 49, 50, 51, 52, 53, 54, 55, 56, 57, 58, 59, 60, 61, 62, 63, 64, 65, 66, 67, 68, 69, 70, 71, 72, 73, 74, 75, 76] (by decide +kernel) (by decide +kernel)
set_option maxRecDepth 20000 in
theorem gX12_dark_X12_isPane : GoodIn wsX12_dark (wsV RX12 216 RX12 yX12_isPane wsX12_isPane) := goodIn_app (goodIn_of _ (by decide +kernel)) ggX12_dark_X12_isPane
set_option maxRecDepth 20000 in
theorem ggX12_dark_X12_lends : GoodIn wsX12_dark wsX12_lends := goodIn_r _ [14, 2, 1, 38, 39, 40, 41, 42, 43, 44, 45, 46, 47, 48, 49, 50, 51, 52, 53, 54, 55, 56, 57, 58, 59, 60, 61, 62, 63, 64, 65, 66, 67, 68, 69, 70, 71, 72, 73, 74, 75, 76] (by decide +kernel) (by decide +kernel)
set_option maxRecDepth 20000 in
theorem gX12_dark_X12_lends : GoodIn wsX12_dark (wsV RX12 247 RX12 yX12_lends wsX12_lends) := goodIn_app (goodIn_of _ (by decide +kernel)) ggX12_dark_X12_lends
set_option maxRecDepth 20000 in
theorem ggX12_dark_X12_lastOf : GoodIn wsX12_dark wsX12_lastOf := goodIn_r _ [18, 19, 20, 21, 6, 22, 1, 2, 38, 39, 40, 41, 42, 43, 44, 45, 46, 47, 48, 49, 50, 51, 52, 53, 54, 55, 56, 57, 58, 59, 60, 61, 62, 63, 64, 65, 66, 67, 68, 69, 70, 71, 72, 73, 74, 75, 76] (by decide +kernel) (by decide +kernel)
set_option maxRecDepth 20000 in
theorem gX12_dark_X12_lastOf : GoodIn wsX12_dark (wsV RX12 210 RX12 yX12_lastOf wsX12_lastOf) := goodIn_app (goodIn_of _ (by decide +kernel)) ggX12_dark_X12_lastOf
set_option maxRecDepth 20000 in
theorem ggX12_dark_X12_dayGoes : GoodIn wsX12_dark wsX12_dayGoes := goodIn_r _ [26, 1, 2, 27, 28, 29, 6, 30, 19, 20, 21, 22, 31, 32, 33, 34, 35, 36, 37, 38, 39, 40, 41, 42, 43, 44, 45, 46, 47, 48, 49, 50, 51, 52, 53, 54, 55, 56, 57, 58, 59, 60, 61, 62, 63, 64, 65, 66, 67, 68, 69, 70, 71, 72, 73, 74, 75, 76] (by decide +kernel) (by decide +kernel)
set_option maxRecDepth 20000 in
theorem gX12_dark_X12_dayGoes : GoodIn wsX12_dark (wsV RX12 232 RX12 yX12_dayGoes wsX12_dayGoes) := goodIn_app (goodIn_of _ (by decide +kernel)) ggX12_dark_X12_dayGoes
theorem dX12_dark_0 : decode cX12_dark 0 = .ok (.aload_n 0, 1) := by decide +kernel
theorem dX12_dark_1 : decode cX12_dark 1 = .ok (.iload_n 1, 1) := by decide +kernel
theorem dX12_dark_2 : decode cX12_dark 2 = .ok (.invokevirtual 216, 3) := by decide +kernel
theorem dX12_dark_5 : decode cX12_dark 5 = .ok (.ifCond .ne 5, 3) := by decide +kernel
theorem dX12_dark_8 : decode cX12_dark 8 = .ok (.iconst (-1), 1) := by decide +kernel
theorem dX12_dark_9 : decode cX12_dark 9 = .ok (.ireturn, 1) := by decide +kernel
theorem dX12_dark_10 : decode cX12_dark 10 = .ok (.aload_n 0, 1) := by decide +kernel
theorem dX12_dark_11 : decode cX12_dark 11 = .ok (.invokevirtual 247, 3) := by decide +kernel
theorem dX12_dark_14 : decode cX12_dark 14 = .ok (.bipush (-3), 2) := by decide +kernel
theorem dX12_dark_16 : decode cX12_dark 16 = .ok (.istore_n 2, 1) := by decide +kernel
theorem dX12_dark_17 : decode cX12_dark 17 = .ok (.iload_n 2, 1) := by decide +kernel
theorem dX12_dark_18 : decode cX12_dark 18 = .ok (.ifCond .ge 51, 3) := by decide +kernel
theorem dX12_dark_21 : decode cX12_dark 21 = .ok (.aload_n 0, 1) := by decide +kernel
theorem dX12_dark_22 : decode cX12_dark 22 = .ok (.getfield 16, 3) := by decide +kernel
theorem dX12_dark_25 : decode cX12_dark 25 = .ok (.aload_n 0, 1) := by decide +kernel
theorem dX12_dark_26 : decode cX12_dark 26 = .ok (.getfield 76, 3) := by decide +kernel
theorem dX12_dark_29 : decode cX12_dark 29 = .ok (.iconst 0, 1) := by decide +kernel
theorem dX12_dark_30 : decode cX12_dark 30 = .ok (.iadd, 1) := by decide +kernel
theorem dX12_dark_31 : decode cX12_dark 31 = .ok (.iaload, 1) := by decide +kernel
theorem dX12_dark_32 : decode cX12_dark 32 = .ok (.bipush 50, 2) := by decide +kernel
theorem dX12_dark_34 : decode cX12_dark 34 = .ok (.if_icmp .ge 35, 3) := by decide +kernel
theorem dX12_dark_37 : decode cX12_dark 37 = .ok (.aload_n 0, 1) := by decide +kernel
theorem dX12_dark_38 : decode cX12_dark 38 = .ok (.iload_n 1, 1) := by decide +kernel
theorem dX12_dark_39 : decode cX12_dark 39 = .ok (.invokevirtual 210, 3) := by decide +kernel
theorem dX12_dark_42 : decode cX12_dark 42 = .ok (.ifCond .lt 17, 3) := by decide +kernel
theorem dX12_dark_45 : decode cX12_dark 45 = .ok (.aload_n 0, 1) := by decide +kernel
theorem dX12_dark_46 : decode cX12_dark 46 = .ok (.getfield 16, 3) := by decide +kernel
theorem dX12_dark_49 : decode cX12_dark 49 = .ok (.aload_n 0, 1) := by decide +kernel
theorem dX12_dark_50 : decode cX12_dark 50 = .ok (.getfield 76, 3) := by decide +kernel
theorem dX12_dark_53 : decode cX12_dark 53 = .ok (.iconst 0, 1) := by decide +kernel
theorem dX12_dark_54 : decode cX12_dark 54 = .ok (.iadd, 1) := by decide +kernel
theorem dX12_dark_55 : decode cX12_dark 55 = .ok (.iaload, 1) := by decide +kernel
theorem dX12_dark_56 : decode cX12_dark 56 = .ok (.goto 5, 3) := by decide +kernel
theorem dX12_dark_59 : decode cX12_dark 59 = .ok (.bipush (-3), 2) := by decide +kernel
theorem dX12_dark_61 : decode cX12_dark 61 = .ok (.istore_n 2, 1) := by decide +kernel
theorem dX12_dark_62 : decode cX12_dark 62 = .ok (.aload_n 0, 1) := by decide +kernel
theorem dX12_dark_63 : decode cX12_dark 63 = .ok (.invokevirtual 232, 3) := by decide +kernel
theorem dX12_dark_66 : decode cX12_dark 66 = .ok (.goto (-49), 3) := by decide +kernel
theorem dX12_dark_69 : decode cX12_dark 69 = .ok (.aload_n 0, 1) := by decide +kernel
theorem dX12_dark_70 : decode cX12_dark 70 = .ok (.iconst 0, 1) := by decide +kernel
theorem dX12_dark_71 : decode cX12_dark 71 = .ok (.putfield 76, 3) := by decide +kernel
theorem dX12_dark_74 : decode cX12_dark 74 = .ok (.iload_n 2, 1) := by decide +kernel
theorem dX12_dark_75 : decode cX12_dark 75 = .ok (.ireturn, 1) := by decide +kernel
set_option maxRecDepth 20000 in
theorem ggX12_seen_X12_isPlace : GoodIn wsX12_seen wsX12_isPlace := goodIn_r _ [6, 7, 8, 5, 9] (by decide +kernel) (by decide +kernel)
set_option maxRecDepth 20000 in
theorem gX12_seen_X12_isPlace : GoodIn wsX12_seen (va_wsS RX12 198 yX12_isPlace wsX12_isPlace) := goodIn_app (goodIn_of _ (by decide +kernel)) ggX12_seen_X12_isPlace
set_option maxRecDepth 20000 in
theorem ggX12_seen_X12_isDay : GoodIn wsX12_seen wsX12_isDay := goodIn_r _ [12, 7, 8, 5, 9] (by decide +kernel) (by decide +kernel)
set_option maxRecDepth 20000 in
theorem gX12_seen_X12_isDay : GoodIn wsX12_seen (va_wsS RX12 201 yX12_isDay wsX12_isDay) := goodIn_app (goodIn_of _ (by decide +kernel)) ggX12_seen_X12_isDay
set_option maxRecDepth 20000 in
theorem ggX12_seen_X12_in : GoodIn wsX12_seen wsX12_in := goodIn_r _ [9] (by decide +kernel) (by decide +kernel)
set_option maxRecDepth 20000 in
theorem gX12_seen_X12_in : GoodIn wsX12_seen (va_wsS RX12 72 yX12_in wsX12_in) := goodIn_app (goodIn_of _ (by decide +kernel)) ggX12_seen_X12_in
set_option maxRecDepth 20000 in
theorem ggX12_seen_X12_lends : GoodIn wsX12_seen wsX12_lends := goodIn_r _ [16, 2, 1, 40, 41, 42, 43, 44, 45, 46, 47, 48, 49, 50, 51, 52, 53, 54, 55, 56, 57, 58, 59, 60, 61, 62, 63, 64, 65, 66, 67, 68, 69, 70, 71, 72, 73, 74, 75, 76, 77, 78] (by decide +kernel) (by decide +kernel)
set_option maxRecDepth 20000 in
theorem gX12_seen_X12_lends : GoodIn wsX12_seen (wsV RX12 247 RX12 yX12_lends wsX12_lends) := goodIn_app (goodIn_of _ (by decide +kernel)) ggX12_seen_X12_lends
set_option maxRecDepth 20000 in
theorem ggX12_seen_X12_lastOf : GoodIn wsX12_seen wsX12_lastOf := goodIn_r _ [20, 21, 22, 23, 5, 24, 1, 2, 40, 41, 42, 43, 44, 45, 46, 47, 48, 49, 50, 51, 52, 53, 54, 55, 56, 57, 58, 59, 60, 61, 62, 63, 64, 65, 66, 67, 68, 69, 70, 71, 72, 73, 74, 75, 76, 77, 78] (by decide +kernel) (by decide +kernel)
set_option maxRecDepth 20000 in
theorem gX12_seen_X12_lastOf : GoodIn wsX12_seen (wsV RX12 210 RX12 yX12_lastOf wsX12_lastOf) := goodIn_app (goodIn_of _ (by decide +kernel)) ggX12_seen_X12_lastOf
set_option maxRecDepth 20000 in
theorem ggX12_seen_X12_dayGoes : GoodIn wsX12_seen wsX12_dayGoes := goodIn_r _ [28, 1, 2, 29, 30, 31, 5, 32, 21, 22, 23, 24, 33, 34, 35, 36, 37, 38, 39, 40, 41, 42, 43, 44, 45, 46, 47, 48, 49, 50, 51, 52, 53, 54, 55, 56, 57, 58, 59, 60, 61, 62, 63, 64, 65, 66, 67, 68, 69, 70, 71, 72, 73, 74, 75, 76, 77, 78] (by decide +kernel) (by decide +kernel)
set_option maxRecDepth 20000 in
theorem gX12_seen_X12_dayGoes : GoodIn wsX12_seen (wsV RX12 232 RX12 yX12_dayGoes wsX12_dayGoes) := goodIn_app (goodIn_of _ (by decide +kernel)) ggX12_seen_X12_dayGoes
theorem dX12_seen_0 : decode cX12_seen 0 = .ok (.iload_n 1, 1) := by decide +kernel
theorem dX12_seen_1 : decode cX12_seen 1 = .ok (.invokestatic 198, 3) := by decide +kernel
theorem dX12_seen_4 : decode cX12_seen 4 = .ok (.ifCond .eq 19, 3) := by decide +kernel
theorem dX12_seen_7 : decode cX12_seen 7 = .ok (.iload_n 2, 1) := by decide +kernel
theorem dX12_seen_8 : decode cX12_seen 8 = .ok (.invokestatic 201, 3) := by decide +kernel
theorem dX12_seen_11 : decode cX12_seen 11 = .ok (.ifCond .eq 12, 3) := by decide +kernel
theorem dX12_seen_14 : decode cX12_seen 14 = .ok (.iload_n 3, 1) := by decide +kernel
theorem dX12_seen_15 : decode cX12_seen 15 = .ok (.iconst 0, 1) := by decide +kernel
theorem dX12_seen_16 : decode cX12_seen 16 = .ok (.iconst 1, 1) := by decide +kernel
theorem dX12_seen_17 : decode cX12_seen 17 = .ok (.invokestatic 72, 3) := by decide +kernel
theorem dX12_seen_20 : decode cX12_seen 20 = .ok (.ifCond .ne 5, 3) := by decide +kernel
theorem dX12_seen_23 : decode cX12_seen 23 = .ok (.iconst (-1), 1) := by decide +kernel
theorem dX12_seen_24 : decode cX12_seen 24 = .ok (.ireturn, 1) := by decide +kernel
theorem dX12_seen_25 : decode cX12_seen 25 = .ok (.aload_n 0, 1) := by decide +kernel
theorem dX12_seen_26 : decode cX12_seen 26 = .ok (.invokevirtual 247, 3) := by decide +kernel
theorem dX12_seen_29 : decode cX12_seen 29 = .ok (.bipush (-3), 2) := by decide +kernel
theorem dX12_seen_31 : decode cX12_seen 31 = .ok (.istore 4, 2) := by decide +kernel
theorem dX12_seen_33 : decode cX12_seen 33 = .ok (.iload 4, 2) := by decide +kernel
theorem dX12_seen_35 : decode cX12_seen 35 = .ok (.ifCond .ge 98, 3) := by decide +kernel
theorem dX12_seen_38 : decode cX12_seen 38 = .ok (.aload_n 0, 1) := by decide +kernel
theorem dX12_seen_39 : decode cX12_seen 39 = .ok (.getfield 16, 3) := by decide +kernel
theorem dX12_seen_42 : decode cX12_seen 42 = .ok (.aload_n 0, 1) := by decide +kernel
theorem dX12_seen_43 : decode cX12_seen 43 = .ok (.getfield 76, 3) := by decide +kernel
theorem dX12_seen_46 : decode cX12_seen 46 = .ok (.iconst 0, 1) := by decide +kernel
theorem dX12_seen_47 : decode cX12_seen 47 = .ok (.iadd, 1) := by decide +kernel
theorem dX12_seen_48 : decode cX12_seen 48 = .ok (.iaload, 1) := by decide +kernel
theorem dX12_seen_49 : decode cX12_seen 49 = .ok (.bipush 50, 2) := by decide +kernel
theorem dX12_seen_51 : decode cX12_seen 51 = .ok (.if_icmp .ge 82, 3) := by decide +kernel
theorem dX12_seen_54 : decode cX12_seen 54 = .ok (.iconst 0, 1) := by decide +kernel
theorem dX12_seen_55 : decode cX12_seen 55 = .ok (.istore 5, 2) := by decide +kernel
theorem dX12_seen_57 : decode cX12_seen 57 = .ok (.iload 5, 2) := by decide +kernel
theorem dX12_seen_59 : decode cX12_seen 59 = .ok (.aload_n 0, 1) := by decide +kernel
theorem dX12_seen_60 : decode cX12_seen 60 = .ok (.getfield 16, 3) := by decide +kernel
theorem dX12_seen_63 : decode cX12_seen 63 = .ok (.aload_n 0, 1) := by decide +kernel
theorem dX12_seen_64 : decode cX12_seen 64 = .ok (.getfield 76, 3) := by decide +kernel
theorem dX12_seen_67 : decode cX12_seen 67 = .ok (.iconst 1, 1) := by decide +kernel
theorem dX12_seen_68 : decode cX12_seen 68 = .ok (.iadd, 1) := by decide +kernel
theorem dX12_seen_69 : decode cX12_seen 69 = .ok (.iaload, 1) := by decide +kernel
theorem dX12_seen_70 : decode cX12_seen 70 = .ok (.if_icmp .ge 56, 3) := by decide +kernel
theorem dX12_seen_73 : decode cX12_seen 73 = .ok (.iload 4, 2) := by decide +kernel
theorem dX12_seen_75 : decode cX12_seen 75 = .ok (.ifCond .ge 51, 3) := by decide +kernel
theorem dX12_seen_78 : decode cX12_seen 78 = .ok (.aload_n 0, 1) := by decide +kernel
theorem dX12_seen_79 : decode cX12_seen 79 = .ok (.iload 5, 2) := by decide +kernel
theorem dX12_seen_81 : decode cX12_seen 81 = .ok (.invokevirtual 210, 3) := by decide +kernel
theorem dX12_seen_84 : decode cX12_seen 84 = .ok (.bipush 10, 2) := by decide +kernel
theorem dX12_seen_86 : decode cX12_seen 86 = .ok (.iload_n 2, 1) := by decide +kernel
theorem dX12_seen_87 : decode cX12_seen 87 = .ok (.imul, 1) := by decide +kernel
theorem dX12_seen_88 : decode cX12_seen 88 = .ok (.iload_n 1, 1) := by decide +kernel
theorem dX12_seen_89 : decode cX12_seen 89 = .ok (.iadd, 1) := by decide +kernel
theorem dX12_seen_90 : decode cX12_seen 90 = .ok (.if_icmp .ne 26, 3) := by decide +kernel
theorem dX12_seen_93 : decode cX12_seen 93 = .ok (.iload_n 3, 1) := by decide +kernel
theorem dX12_seen_94 : decode cX12_seen 94 = .ok (.ifCond .ne 17, 3) := by decide +kernel
theorem dX12_seen_97 : decode cX12_seen 97 = .ok (.aload_n 0, 1) := by decide +kernel
theorem dX12_seen_98 : decode cX12_seen 98 = .ok (.getfield 16, 3) := by decide +kernel
theorem dX12_seen_101 : decode cX12_seen 101 = .ok (.aload_n 0, 1) := by decide +kernel
theorem dX12_seen_102 : decode cX12_seen 102 = .ok (.getfield 76, 3) := by decide +kernel
theorem dX12_seen_105 : decode cX12_seen 105 = .ok (.iconst 0, 1) := by decide +kernel
theorem dX12_seen_106 : decode cX12_seen 106 = .ok (.iadd, 1) := by decide +kernel
theorem dX12_seen_107 : decode cX12_seen 107 = .ok (.iaload, 1) := by decide +kernel
theorem dX12_seen_108 : decode cX12_seen 108 = .ok (.goto 10, 3) := by decide +kernel
theorem dX12_seen_111 : decode cX12_seen 111 = .ok (.iload 5, 2) := by decide +kernel
theorem dX12_seen_113 : decode cX12_seen 113 = .ok (.goto 5, 3) := by decide +kernel
theorem dX12_seen_116 : decode cX12_seen 116 = .ok (.bipush (-3), 2) := by decide +kernel
theorem dX12_seen_118 : decode cX12_seen 118 = .ok (.istore 4, 2) := by decide +kernel
theorem dX12_seen_120 : decode cX12_seen 120 = .ok (.iinc 5 1, 3) := by decide +kernel
theorem dX12_seen_123 : decode cX12_seen 123 = .ok (.goto (-66), 3) := by decide +kernel
theorem dX12_seen_126 : decode cX12_seen 126 = .ok (.aload_n 0, 1) := by decide +kernel
theorem dX12_seen_127 : decode cX12_seen 127 = .ok (.invokevirtual 232, 3) := by decide +kernel
theorem dX12_seen_130 : decode cX12_seen 130 = .ok (.goto (-97), 3) := by decide +kernel
theorem dX12_seen_133 : decode cX12_seen 133 = .ok (.aload_n 0, 1) := by decide +kernel
theorem dX12_seen_134 : decode cX12_seen 134 = .ok (.iconst 0, 1) := by decide +kernel
theorem dX12_seen_135 : decode cX12_seen 135 = .ok (.putfield 76, 3) := by decide +kernel
theorem dX12_seen_138 : decode cX12_seen 138 = .ok (.iload 4, 2) := by decide +kernel
theorem dX12_seen_140 : decode cX12_seen 140 = .ok (.ireturn, 1) := by decide +kernel
set_option maxRecDepth 20000 in
theorem ggX12_worthOf_X12_lastOf : GoodIn wsX12_worthOf wsX12_lastOf := goodIn_r _ [8, 9, 10, 11, 7, 12, 1, 2, 33, 34, 35, 36, 37, 38, 39, 40, 41, 42, 43, 44, 45, 46, 47, 48, 49, 50, 51, 52, 53, 54, 55, 56, 57, 58, 59, 60, 61, 62, 63, 64, 65, 66, 67, 68, 69, 70, 71] (by decide +kernel) (by decide +kernel)
set_option maxRecDepth 20000 in
theorem gX12_worthOf_X12_lastOf : GoodIn wsX12_worthOf (wsV RX12 210 RX12 yX12_lastOf wsX12_lastOf) := goodIn_app (goodIn_of _ (by decide +kernel)) ggX12_worthOf_X12_lastOf
set_option maxRecDepth 20000 in
theorem ggX12_worthOf_X12_shown : GoodIn wsX12_worthOf wsX12_shown := goodIn_r _ [16, 9, 10, 11, 7, 12, 1, 2, 4, 5, 6, 8, 17, 18, 19, 20, 21, 33, 34, 35, 36, 37, 38, 39, 40, 41, 42, 43, 44, 45, 46, 47, 48, 49, 50, 51, 52, 53, 54, 55, 56, 57, 58, 59, 60, 61, 62, 63, 64, 65, 66, 67, 68, 69, 70, 71] (by decide +kernel) (by decide +kernel)
set_option maxRecDepth 20000 in
theorem gX12_worthOf_X12_shown : GoodIn wsX12_worthOf (wsV RX12 222 RX12 yX12_shown wsX12_shown) := goodIn_app (goodIn_of _ (by decide +kernel)) ggX12_worthOf_X12_shown
set_option maxRecDepth 20000 in
theorem ggX12_worthOf_X12_moves : GoodIn wsX12_worthOf wsX12_moves := goodIn_r _ [25, 9, 10, 11, 7, 12, 1, 2, 26, 27, 28, 29, 30, 31, 32, 33, 34, 35, 36, 37, 38, 39, 40, 41, 42, 43, 44, 45, 46, 47, 48, 49, 50, 51, 52, 53, 54, 55, 56, 57, 58, 59, 60, 61, 62, 63, 64, 65, 66, 67, 68, 69, 70, 71] (by decide +kernel) (by decide +kernel)
set_option maxRecDepth 20000 in
theorem gX12_worthOf_X12_moves : GoodIn wsX12_worthOf (wsV RX12 229 RX12 yX12_moves wsX12_moves) := goodIn_app (goodIn_of _ (by decide +kernel)) ggX12_worthOf_X12_moves
theorem dX12_worthOf_0 : decode cX12_worthOf 0 = .ok (.iconst 0, 1) := by decide +kernel
theorem dX12_worthOf_1 : decode cX12_worthOf 1 = .ok (.istore 4, 2) := by decide +kernel
theorem dX12_worthOf_3 : decode cX12_worthOf 3 = .ok (.aload_n 0, 1) := by decide +kernel
theorem dX12_worthOf_4 : decode cX12_worthOf 4 = .ok (.getfield 16, 3) := by decide +kernel
theorem dX12_worthOf_7 : decode cX12_worthOf 7 = .ok (.aload_n 0, 1) := by decide +kernel
theorem dX12_worthOf_8 : decode cX12_worthOf 8 = .ok (.getfield 76, 3) := by decide +kernel
theorem dX12_worthOf_11 : decode cX12_worthOf 11 = .ok (.iconst 0, 1) := by decide +kernel
theorem dX12_worthOf_12 : decode cX12_worthOf 12 = .ok (.iadd, 1) := by decide +kernel
theorem dX12_worthOf_13 : decode cX12_worthOf 13 = .ok (.iaload, 1) := by decide +kernel
theorem dX12_worthOf_14 : decode cX12_worthOf 14 = .ok (.istore 5, 2) := by decide +kernel
theorem dX12_worthOf_16 : decode cX12_worthOf 16 = .ok (.iconst 0, 1) := by decide +kernel
theorem dX12_worthOf_17 : decode cX12_worthOf 17 = .ok (.istore 6, 2) := by decide +kernel
theorem dX12_worthOf_19 : decode cX12_worthOf 19 = .ok (.iload 6, 2) := by decide +kernel
theorem dX12_worthOf_21 : decode cX12_worthOf 21 = .ok (.iload_n 3, 1) := by decide +kernel
theorem dX12_worthOf_22 : decode cX12_worthOf 22 = .ok (.if_icmp .ge 76, 3) := by decide +kernel
theorem dX12_worthOf_25 : decode cX12_worthOf 25 = .ok (.iload 5, 2) := by decide +kernel
theorem dX12_worthOf_27 : decode cX12_worthOf 27 = .ok (.bipush 50, 2) := by decide +kernel
theorem dX12_worthOf_29 : decode cX12_worthOf 29 = .ok (.if_icmp .ge 69, 3) := by decide +kernel
theorem dX12_worthOf_32 : decode cX12_worthOf 32 = .ok (.aload_n 0, 1) := by decide +kernel
theorem dX12_worthOf_33 : decode cX12_worthOf 33 = .ok (.iload_n 1, 1) := by decide +kernel
theorem dX12_worthOf_34 : decode cX12_worthOf 34 = .ok (.invokevirtual 210, 3) := by decide +kernel
theorem dX12_worthOf_37 : decode cX12_worthOf 37 = .ok (.istore 7, 2) := by decide +kernel
theorem dX12_worthOf_39 : decode cX12_worthOf 39 = .ok (.iload 4, 2) := by decide +kernel
theorem dX12_worthOf_41 : decode cX12_worthOf 41 = .ok (.iload 7, 2) := by decide +kernel
theorem dX12_worthOf_43 : decode cX12_worthOf 43 = .ok (.ifCond .ge 7, 3) := by decide +kernel
theorem dX12_worthOf_46 : decode cX12_worthOf 46 = .ok (.iconst 0, 1) := by decide +kernel
theorem dX12_worthOf_47 : decode cX12_worthOf 47 = .ok (.goto 32, 3) := by decide +kernel
theorem dX12_worthOf_50 : decode cX12_worthOf 50 = .ok (.aload_n 0, 1) := by decide +kernel
theorem dX12_worthOf_51 : decode cX12_worthOf 51 = .ok (.iload_n 1, 1) := by decide +kernel
theorem dX12_worthOf_52 : decode cX12_worthOf 52 = .ok (.invokevirtual 222, 3) := by decide +kernel
theorem dX12_worthOf_55 : decode cX12_worthOf 55 = .ok (.aload_n 0, 1) := by decide +kernel
theorem dX12_worthOf_56 : decode cX12_worthOf 56 = .ok (.getfield 13, 3) := by decide +kernel
theorem dX12_worthOf_59 : decode cX12_worthOf 59 = .ok (.iconst 4, 1) := by decide +kernel
theorem dX12_worthOf_60 : decode cX12_worthOf 60 = .ok (.iload_n 2, 1) := by decide +kernel
theorem dX12_worthOf_61 : decode cX12_worthOf 61 = .ok (.imul, 1) := by decide +kernel
theorem dX12_worthOf_62 : decode cX12_worthOf 62 = .ok (.iload 7, 2) := by decide +kernel
theorem dX12_worthOf_64 : decode cX12_worthOf 64 = .ok (.ifCond .ge 7, 3) := by decide +kernel
theorem dX12_worthOf_67 : decode cX12_worthOf 67 = .ok (.iconst 0, 1) := by decide +kernel
theorem dX12_worthOf_68 : decode cX12_worthOf 68 = .ok (.goto 8, 3) := by decide +kernel
theorem dX12_worthOf_71 : decode cX12_worthOf 71 = .ok (.iload 7, 2) := by decide +kernel
theorem dX12_worthOf_73 : decode cX12_worthOf 73 = .ok (.bipush 10, 2) := by decide +kernel
theorem dX12_worthOf_75 : decode cX12_worthOf 75 = .ok (.irem, 1) := by decide +kernel
theorem dX12_worthOf_76 : decode cX12_worthOf 76 = .ok (.iadd, 1) := by decide +kernel
theorem dX12_worthOf_77 : decode cX12_worthOf 77 = .ok (.iaload, 1) := by decide +kernel
theorem dX12_worthOf_78 : decode cX12_worthOf 78 = .ok (.imul, 1) := by decide +kernel
theorem dX12_worthOf_79 : decode cX12_worthOf 79 = .ok (.iadd, 1) := by decide +kernel
theorem dX12_worthOf_80 : decode cX12_worthOf 80 = .ok (.istore 4, 2) := by decide +kernel
theorem dX12_worthOf_82 : decode cX12_worthOf 82 = .ok (.aload_n 0, 1) := by decide +kernel
theorem dX12_worthOf_83 : decode cX12_worthOf 83 = .ok (.iload_n 1, 1) := by decide +kernel
theorem dX12_worthOf_84 : decode cX12_worthOf 84 = .ok (.iload 5, 2) := by decide +kernel
theorem dX12_worthOf_86 : decode cX12_worthOf 86 = .ok (.invokevirtual 229, 3) := by decide +kernel
theorem dX12_worthOf_89 : decode cX12_worthOf 89 = .ok (.iinc 5 1, 3) := by decide +kernel
theorem dX12_worthOf_92 : decode cX12_worthOf 92 = .ok (.iinc 6 1, 3) := by decide +kernel
theorem dX12_worthOf_95 : decode cX12_worthOf 95 = .ok (.goto (-76), 3) := by decide +kernel
theorem dX12_worthOf_98 : decode cX12_worthOf 98 = .ok (.iload 4, 2) := by decide +kernel
theorem dX12_worthOf_100 : decode cX12_worthOf 100 = .ok (.ireturn, 1) := by decide +kernel
set_option maxRecDepth 20000 in
theorem ggX12_worth_X12_isPane : GoodIn wsX12_worth wsX12_isPane := goodIn_r _ [6, 7, 8, 9, 5, 10, 54, 55, 56, 57, 58, 59, 60, 61, 62, 63, 64, 65, 66, 67, 68, 69, 70, 71, 72, 73, 74, 75, 76, 77, 78, 79, 80, 81, 82, 83, 84, 85, 86, 87, 88, 89, 90, 91, 92] (by decide +kernel) (by decide +kernel)
set_option maxRecDepth 20000 in
theorem gX12_worth_X12_isPane : GoodIn wsX12_worth (wsV RX12 216 RX12 yX12_isPane wsX12_isPane) := goodIn_app (goodIn_of _ (by decide +kernel)) ggX12_worth_X12_isPane
set_option maxRecDepth 20000 in
theorem ggX12_worth_X12_isLooker : GoodIn wsX12_worth wsX12_isLooker := goodIn_r _ [13, 8, 9, 5, 10] (by decide +kernel) (by decide +kernel)
set_option maxRecDepth 20000 in
theorem gX12_worth_X12_isLooker : GoodIn wsX12_worth (va_wsS RX12 204 yX12_isLooker wsX12_isLooker) := goodIn_app (goodIn_of _ (by decide +kernel)) ggX12_worth_X12_isLooker
set_option maxRecDepth 20000 in
theorem ggX12_worth_X12_isLong : GoodIn wsX12_worth wsX12_isLong := goodIn_r _ [16, 8, 9, 5, 10] (by decide +kernel) (by decide +kernel)
set_option maxRecDepth 20000 in
theorem gX12_worth_X12_isLong : GoodIn wsX12_worth (va_wsS RX12 250 yX12_isLong wsX12_isLong) := goodIn_app (goodIn_of _ (by decide +kernel)) ggX12_worth_X12_isLong
set_option maxRecDepth 20000 in
theorem ggX12_worth_X12_lends : GoodIn wsX12_worth wsX12_lends := goodIn_r _ [20, 1, 7, 54, 55, 56, 57, 58, 59, 60, 61, 62, 63, 64, 65, 66, 67, 68, 69, 70, 71, 72, 73, 74, 75, 76, 77, 78, 79, 80, 81, 82, 83, 84, 85, 86, 87, 88, 89, 90, 91, 92] (by decide +kernel) (by decide +kernel)
set_option maxRecDepth 20000 in
theorem gX12_worth_X12_lends : GoodIn wsX12_worth (wsV RX12 247 RX12 yX12_lends wsX12_lends) := goodIn_app (goodIn_of _ (by decide +kernel)) ggX12_worth_X12_lends
set_option maxRecDepth 20000 in
theorem ggX12_worth_X12_worthOf : GoodIn wsX12_worth wsX12_worthOf := goodIn_r _ [24, 7, 1, 25, 26, 27, 28, 5, 29, 30, 31, 32, 33, 34, 35, 36, 37, 38, 39, 40, 41, 42, 43, 44, 45, 46, 47, 48, 49, 50, 51, 52, 53, 54, 55, 56, 57, 58, 59, 60, 61, 62, 63, 64, 65, 66, 67, 68, 69, 70, 71, 72, 73, 74, 75, 76, 77, 78, 79, 80, 81, 82, 83, 84, 85, 86, 87, 88, 89, 90, 91, 92] (by decide +kernel) (by decide +kernel)
set_option maxRecDepth 20000 in
theorem gX12_worth_X12_worthOf : GoodIn wsX12_worth (wsV RX12 253 RX12 yX12_worthOf wsX12_worthOf) := goodIn_app (goodIn_of _ (by decide +kernel)) ggX12_worth_X12_worthOf
theorem dX12_worth_0 : decode cX12_worth 0 = .ok (.aload_n 0, 1) := by decide +kernel
theorem dX12_worth_1 : decode cX12_worth 1 = .ok (.iload_n 1, 1) := by decide +kernel
theorem dX12_worth_2 : decode cX12_worth 2 = .ok (.invokevirtual 216, 3) := by decide +kernel
theorem dX12_worth_5 : decode cX12_worth 5 = .ok (.ifCond .eq 17, 3) := by decide +kernel
theorem dX12_worth_8 : decode cX12_worth 8 = .ok (.iload_n 2, 1) := by decide +kernel
theorem dX12_worth_9 : decode cX12_worth 9 = .ok (.invokestatic 204, 3) := by decide +kernel
theorem dX12_worth_12 : decode cX12_worth 12 = .ok (.ifCond .eq 10, 3) := by decide +kernel
theorem dX12_worth_15 : decode cX12_worth 15 = .ok (.iload_n 3, 1) := by decide +kernel
theorem dX12_worth_16 : decode cX12_worth 16 = .ok (.invokestatic 250, 3) := by decide +kernel
theorem dX12_worth_19 : decode cX12_worth 19 = .ok (.ifCond .ne 5, 3) := by decide +kernel
theorem dX12_worth_22 : decode cX12_worth 22 = .ok (.iconst (-1), 1) := by decide +kernel
theorem dX12_worth_23 : decode cX12_worth 23 = .ok (.ireturn, 1) := by decide +kernel
theorem dX12_worth_24 : decode cX12_worth 24 = .ok (.aload_n 0, 1) := by decide +kernel
theorem dX12_worth_25 : decode cX12_worth 25 = .ok (.invokevirtual 247, 3) := by decide +kernel
theorem dX12_worth_28 : decode cX12_worth 28 = .ok (.aload_n 0, 1) := by decide +kernel
theorem dX12_worth_29 : decode cX12_worth 29 = .ok (.iload_n 1, 1) := by decide +kernel
theorem dX12_worth_30 : decode cX12_worth 30 = .ok (.iload_n 2, 1) := by decide +kernel
theorem dX12_worth_31 : decode cX12_worth 31 = .ok (.iload_n 3, 1) := by decide +kernel
theorem dX12_worth_32 : decode cX12_worth 32 = .ok (.invokevirtual 253, 3) := by decide +kernel
theorem dX12_worth_35 : decode cX12_worth 35 = .ok (.istore 4, 2) := by decide +kernel
theorem dX12_worth_37 : decode cX12_worth 37 = .ok (.aload_n 0, 1) := by decide +kernel
theorem dX12_worth_38 : decode cX12_worth 38 = .ok (.iconst 0, 1) := by decide +kernel
theorem dX12_worth_39 : decode cX12_worth 39 = .ok (.putfield 76, 3) := by decide +kernel
theorem dX12_worth_42 : decode cX12_worth 42 = .ok (.iload 4, 2) := by decide +kernel
theorem dX12_worth_44 : decode cX12_worth 44 = .ok (.ireturn, 1) := by decide +kernel
set_option maxRecDepth 20000 in
theorem ggX12_buy_X12_isLooker : GoodIn wsX12_buy wsX12_isLooker := goodIn_r _ [6, 7, 8, 5, 9] (by decide +kernel) (by decide +kernel)
set_option maxRecDepth 20000 in
theorem gX12_buy_X12_isLooker : GoodIn wsX12_buy (va_wsS RX12 204 yX12_isLooker wsX12_isLooker) := goodIn_app (goodIn_of _ (by decide +kernel)) ggX12_buy_X12_isLooker
set_option maxRecDepth 20000 in
theorem ggX12_buy_X12_isLong : GoodIn wsX12_buy wsX12_isLong := goodIn_r _ [12, 7, 8, 5, 9] (by decide +kernel) (by decide +kernel)
set_option maxRecDepth 20000 in
theorem gX12_buy_X12_isLong : GoodIn wsX12_buy (va_wsS RX12 250 yX12_isLong wsX12_isLong) := goodIn_app (goodIn_of _ (by decide +kernel)) ggX12_buy_X12_isLong
set_option maxRecDepth 20000 in
theorem ggX12_buy_X12_lends : GoodIn wsX12_buy wsX12_lends := goodIn_r _ [16, 2, 1, 50, 51, 52, 53, 54, 55, 56, 57, 58, 59, 60, 61, 62, 63, 64, 65, 66, 67, 68, 69, 70, 71, 72, 73, 74, 75, 76, 77, 78, 79, 80, 81, 82, 83, 84, 85, 86, 87, 88] (by decide +kernel) (by decide +kernel)
set_option maxRecDepth 20000 in
theorem gX12_buy_X12_lends : GoodIn wsX12_buy (wsV RX12 247 RX12 yX12_lends wsX12_lends) := goodIn_app (goodIn_of _ (by decide +kernel)) ggX12_buy_X12_lends
set_option maxRecDepth 20000 in
theorem ggX12_buy_X12_worthOf : GoodIn wsX12_buy wsX12_worthOf := goodIn_r _ [20, 1, 2, 21, 22, 23, 24, 5, 25, 26, 27, 28, 29, 30, 31, 32, 33, 34, 35, 36, 37, 38, 39, 40, 41, 42, 43, 44, 45, 46, 47, 48, 49, 50, 51, 52, 53, 54, 55, 56, 57, 58, 59, 60, 61, 62, 63, 64, 65, 66, 67, 68, 69, 70, 71, 72, 73, 74, 75, 76, 77, 78, 79, 80, 81, 82, 83, 84, 85, 86, 87, 88] (by decide +kernel) (by decide +kernel)
set_option maxRecDepth 20000 in
theorem gX12_buy_X12_worthOf : GoodIn wsX12_buy (wsV RX12 253 RX12 yX12_worthOf wsX12_worthOf) := goodIn_app (goodIn_of _ (by decide +kernel)) ggX12_buy_X12_worthOf
theorem dX12_buy_0 : decode cX12_buy 0 = .ok (.iload_n 1, 1) := by decide +kernel
theorem dX12_buy_1 : decode cX12_buy 1 = .ok (.invokestatic 204, 3) := by decide +kernel
theorem dX12_buy_4 : decode cX12_buy 4 = .ok (.ifCond .eq 10, 3) := by decide +kernel
theorem dX12_buy_7 : decode cX12_buy 7 = .ok (.iload_n 2, 1) := by decide +kernel
theorem dX12_buy_8 : decode cX12_buy 8 = .ok (.invokestatic 250, 3) := by decide +kernel
theorem dX12_buy_11 : decode cX12_buy 11 = .ok (.ifCond .ne 5, 3) := by decide +kernel
theorem dX12_buy_14 : decode cX12_buy 14 = .ok (.iconst (-1), 1) := by decide +kernel
theorem dX12_buy_15 : decode cX12_buy 15 = .ok (.ireturn, 1) := by decide +kernel
theorem dX12_buy_16 : decode cX12_buy 16 = .ok (.bipush (-3), 2) := by decide +kernel
theorem dX12_buy_18 : decode cX12_buy 18 = .ok (.istore_n 3, 1) := by decide +kernel
theorem dX12_buy_19 : decode cX12_buy 19 = .ok (.iconst (-1), 1) := by decide +kernel
theorem dX12_buy_20 : decode cX12_buy 20 = .ok (.istore 4, 2) := by decide +kernel
theorem dX12_buy_22 : decode cX12_buy 22 = .ok (.aload_n 0, 1) := by decide +kernel
theorem dX12_buy_23 : decode cX12_buy 23 = .ok (.invokevirtual 247, 3) := by decide +kernel
theorem dX12_buy_26 : decode cX12_buy 26 = .ok (.iconst 0, 1) := by decide +kernel
theorem dX12_buy_27 : decode cX12_buy 27 = .ok (.istore 5, 2) := by decide +kernel
theorem dX12_buy_29 : decode cX12_buy 29 = .ok (.iload 5, 2) := by decide +kernel
theorem dX12_buy_31 : decode cX12_buy 31 = .ok (.aload_n 0, 1) := by decide +kernel
theorem dX12_buy_32 : decode cX12_buy 32 = .ok (.getfield 16, 3) := by decide +kernel
theorem dX12_buy_35 : decode cX12_buy 35 = .ok (.iconst 1, 1) := by decide +kernel
theorem dX12_buy_36 : decode cX12_buy 36 = .ok (.iaload, 1) := by decide +kernel
theorem dX12_buy_37 : decode cX12_buy 37 = .ok (.if_icmp .ge 49, 3) := by decide +kernel
theorem dX12_buy_40 : decode cX12_buy 40 = .ok (.aload_n 0, 1) := by decide +kernel
theorem dX12_buy_41 : decode cX12_buy 41 = .ok (.iload 5, 2) := by decide +kernel
theorem dX12_buy_43 : decode cX12_buy 43 = .ok (.iload_n 1, 1) := by decide +kernel
theorem dX12_buy_44 : decode cX12_buy 44 = .ok (.iload_n 2, 1) := by decide +kernel
theorem dX12_buy_45 : decode cX12_buy 45 = .ok (.invokevirtual 253, 3) := by decide +kernel
theorem dX12_buy_48 : decode cX12_buy 48 = .ok (.istore 6, 2) := by decide +kernel
theorem dX12_buy_50 : decode cX12_buy 50 = .ok (.iload 6, 2) := by decide +kernel
theorem dX12_buy_52 : decode cX12_buy 52 = .ok (.iload 4, 2) := by decide +kernel
theorem dX12_buy_54 : decode cX12_buy 54 = .ok (.if_icmp .le 8, 3) := by decide +kernel
theorem dX12_buy_57 : decode cX12_buy 57 = .ok (.iload 5, 2) := by decide +kernel
theorem dX12_buy_59 : decode cX12_buy 59 = .ok (.goto 4, 3) := by decide +kernel
theorem dX12_buy_62 : decode cX12_buy 62 = .ok (.iload_n 3, 1) := by decide +kernel
theorem dX12_buy_63 : decode cX12_buy 63 = .ok (.istore_n 3, 1) := by decide +kernel
theorem dX12_buy_64 : decode cX12_buy 64 = .ok (.iload 6, 2) := by decide +kernel
theorem dX12_buy_66 : decode cX12_buy 66 = .ok (.iload 4, 2) := by decide +kernel
theorem dX12_buy_68 : decode cX12_buy 68 = .ok (.if_icmp .le 8, 3) := by decide +kernel
theorem dX12_buy_71 : decode cX12_buy 71 = .ok (.iload 6, 2) := by decide +kernel
theorem dX12_buy_73 : decode cX12_buy 73 = .ok (.goto 5, 3) := by decide +kernel
theorem dX12_buy_76 : decode cX12_buy 76 = .ok (.iload 4, 2) := by decide +kernel
