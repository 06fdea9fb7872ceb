theorem dX8_readsEntry_6 : decode cX8_readsEntry 6 = .ok (.bipush 58, 2) := by decide +kernel
theorem dX8_readsEntry_8 : decode cX8_readsEntry 8 = .ok (.invokevirtual 148, 3) := by decide +kernel
theorem dX8_readsEntry_11 : decode cX8_readsEntry 11 = .ok (.ifCond .eq 75, 3) := by decide +kernel
theorem dX8_readsEntry_14 : decode cX8_readsEntry 14 = .ok (.aload_n 0, 1) := by decide +kernel
theorem dX8_readsEntry_15 : decode cX8_readsEntry 15 = .ok (.bipush 12, 2) := by decide +kernel
theorem dX8_readsEntry_17 : decode cX8_readsEntry 17 = .ok (.invokevirtual 151, 3) := by decide +kernel
theorem dX8_readsEntry_20 : decode cX8_readsEntry 20 = .ok (.istore_n 3, 1) := by decide +kernel
theorem dX8_readsEntry_21 : decode cX8_readsEntry 21 = .ok (.iload_n 3, 1) := by decide +kernel
theorem dX8_readsEntry_22 : decode cX8_readsEntry 22 = .ok (.ifCond .le 16, 3) := by decide +kernel
theorem dX8_readsEntry_25 : decode cX8_readsEntry 25 = .ok (.aload_n 0, 1) := by decide +kernel
theorem dX8_readsEntry_26 : decode cX8_readsEntry 26 = .ok (.bipush 33, 2) := by decide +kernel
theorem dX8_readsEntry_28 : decode cX8_readsEntry 28 = .ok (.invokevirtual 148, 3) := by decide +kernel
theorem dX8_readsEntry_31 : decode cX8_readsEntry 31 = .ok (.ifCond .eq 7, 3) := by decide +kernel
theorem dX8_readsEntry_34 : decode cX8_readsEntry 34 = .ok (.iconst 1, 1) := by decide +kernel
theorem dX8_readsEntry_35 : decode cX8_readsEntry 35 = .ok (.goto 21, 3) := by decide +kernel
theorem dX8_readsEntry_38 : decode cX8_readsEntry 38 = .ok (.iload_n 3, 1) := by decide +kernel
theorem dX8_readsEntry_39 : decode cX8_readsEntry 39 = .ok (.ifCond .le 16, 3) := by decide +kernel
theorem dX8_readsEntry_42 : decode cX8_readsEntry 42 = .ok (.aload_n 0, 1) := by decide +kernel
theorem dX8_readsEntry_43 : decode cX8_readsEntry 43 = .ok (.bipush 39, 2) := by decide +kernel
theorem dX8_readsEntry_45 : decode cX8_readsEntry 45 = .ok (.invokevirtual 148, 3) := by decide +kernel
theorem dX8_readsEntry_48 : decode cX8_readsEntry 48 = .ok (.ifCond .eq 7, 3) := by decide +kernel
theorem dX8_readsEntry_51 : decode cX8_readsEntry 51 = .ok (.iconst 2, 1) := by decide +kernel
theorem dX8_readsEntry_52 : decode cX8_readsEntry 52 = .ok (.goto 4, 3) := by decide +kernel
theorem dX8_readsEntry_55 : decode cX8_readsEntry 55 = .ok (.iconst 0, 1) := by decide +kernel
theorem dX8_readsEntry_56 : decode cX8_readsEntry 56 = .ok (.istore 4, 2) := by decide +kernel
theorem dX8_readsEntry_58 : decode cX8_readsEntry 58 = .ok (.iload_n 3, 1) := by decide +kernel
theorem dX8_readsEntry_59 : decode cX8_readsEntry 59 = .ok (.ifCond .le 17, 3) := by decide +kernel
theorem dX8_readsEntry_62 : decode cX8_readsEntry 62 = .ok (.iload_n 1, 1) := by decide +kernel
theorem dX8_readsEntry_63 : decode cX8_readsEntry 63 = .ok (.ifCond .eq 13, 3) := by decide +kernel
theorem dX8_readsEntry_66 : decode cX8_readsEntry 66 = .ok (.aload_n 0, 1) := by decide +kernel
theorem dX8_readsEntry_67 : decode cX8_readsEntry 67 = .ok (.iload_n 2, 1) := by decide +kernel
theorem dX8_readsEntry_68 : decode cX8_readsEntry 68 = .ok (.iconst 1, 1) := by decide +kernel
theorem dX8_readsEntry_69 : decode cX8_readsEntry 69 = .ok (.iadd, 1) := by decide +kernel
theorem dX8_readsEntry_70 : decode cX8_readsEntry 70 = .ok (.iload_n 3, 1) := by decide +kernel
theorem dX8_readsEntry_71 : decode cX8_readsEntry 71 = .ok (.iload 4, 2) := by decide +kernel
theorem dX8_readsEntry_73 : decode cX8_readsEntry 73 = .ok (.invokevirtual 154, 3) := by decide +kernel
theorem dX8_readsEntry_76 : decode cX8_readsEntry 76 = .ok (.iload_n 3, 1) := by decide +kernel
theorem dX8_readsEntry_77 : decode cX8_readsEntry 77 = .ok (.ifCond .le 7, 3) := by decide +kernel
theorem dX8_readsEntry_80 : decode cX8_readsEntry 80 = .ok (.iconst 1, 1) := by decide +kernel
theorem dX8_readsEntry_81 : decode cX8_readsEntry 81 = .ok (.goto 4, 3) := by decide +kernel
theorem dX8_readsEntry_84 : decode cX8_readsEntry 84 = .ok (.iconst 0, 1) := by decide +kernel
theorem dX8_readsEntry_85 : decode cX8_readsEntry 85 = .ok (.ireturn, 1) := by decide +kernel
theorem dX8_readsEntry_86 : decode cX8_readsEntry 86 = .ok (.aload_n 0, 1) := by decide +kernel
theorem dX8_readsEntry_87 : decode cX8_readsEntry 87 = .ok (.bipush 65, 2) := by decide +kernel
theorem dX8_readsEntry_89 : decode cX8_readsEntry 89 = .ok (.bipush 90, 2) := by decide +kernel
theorem dX8_readsEntry_91 : decode cX8_readsEntry 91 = .ok (.invokevirtual 145, 3) := by decide +kernel
theorem dX8_readsEntry_94 : decode cX8_readsEntry 94 = .ok (.ifCond .eq 67, 3) := by decide +kernel
theorem dX8_readsEntry_97 : decode cX8_readsEntry 97 = .ok (.aload_n 0, 1) := by decide +kernel
theorem dX8_readsEntry_98 : decode cX8_readsEntry 98 = .ok (.dup, 1) := by decide +kernel
theorem dX8_readsEntry_99 : decode cX8_readsEntry 99 = .ok (.getfield 142, 3) := by decide +kernel
theorem dX8_readsEntry_102 : decode cX8_readsEntry 102 = .ok (.iconst 1, 1) := by decide +kernel
theorem dX8_readsEntry_103 : decode cX8_readsEntry 103 = .ok (.iadd, 1) := by decide +kernel
theorem dX8_readsEntry_104 : decode cX8_readsEntry 104 = .ok (.putfield 142, 3) := by decide +kernel
theorem dX8_readsEntry_107 : decode cX8_readsEntry 107 = .ok (.aload_n 0, 1) := by decide +kernel
theorem dX8_readsEntry_108 : decode cX8_readsEntry 108 = .ok (.bipush 61, 2) := by decide +kernel
theorem dX8_readsEntry_110 : decode cX8_readsEntry 110 = .ok (.invokevirtual 148, 3) := by decide +kernel
theorem dX8_readsEntry_113 : decode cX8_readsEntry 113 = .ok (.ifCond .eq 11, 3) := by decide +kernel
theorem dX8_readsEntry_116 : decode cX8_readsEntry 116 = .ok (.aload_n 0, 1) := by decide +kernel
theorem dX8_readsEntry_117 : decode cX8_readsEntry 117 = .ok (.iconst 2, 1) := by decide +kernel
theorem dX8_readsEntry_118 : decode cX8_readsEntry 118 = .ok (.invokevirtual 151, 3) := by decide +kernel
theorem dX8_readsEntry_121 : decode cX8_readsEntry 121 = .ok (.goto 4, 3) := by decide +kernel
theorem dX8_readsEntry_124 : decode cX8_readsEntry 124 = .ok (.iconst 0, 1) := by decide +kernel
theorem dX8_readsEntry_125 : decode cX8_readsEntry 125 = .ok (.istore_n 3, 1) := by decide +kernel
theorem dX8_readsEntry_126 : decode cX8_readsEntry 126 = .ok (.iload_n 3, 1) := by decide +kernel
theorem dX8_readsEntry_127 : decode cX8_readsEntry 127 = .ok (.ifCond .le 24, 3) := by decide +kernel
theorem dX8_readsEntry_130 : decode cX8_readsEntry 130 = .ok (.iload_n 1, 1) := by decide +kernel
theorem dX8_readsEntry_131 : decode cX8_readsEntry 131 = .ok (.ifCond .eq 20, 3) := by decide +kernel
theorem dX8_readsEntry_134 : decode cX8_readsEntry 134 = .ok (.aload_n 0, 1) := by decide +kernel
theorem dX8_readsEntry_135 : decode cX8_readsEntry 135 = .ok (.aload_n 0, 1) := by decide +kernel
theorem dX8_readsEntry_136 : decode cX8_readsEntry 136 = .ok (.getfield 43, 3) := by decide +kernel
theorem dX8_readsEntry_139 : decode cX8_readsEntry 139 = .ok (.iload_n 2, 1) := by decide +kernel
theorem dX8_readsEntry_140 : decode cX8_readsEntry 140 = .ok (.iaload, 1) := by decide +kernel
theorem dX8_readsEntry_141 : decode cX8_readsEntry 141 = .ok (.bipush 65, 2) := by decide +kernel
theorem dX8_readsEntry_143 : decode cX8_readsEntry 143 = .ok (.isub, 1) := by decide +kernel
theorem dX8_readsEntry_144 : decode cX8_readsEntry 144 = .ok (.iload_n 2, 1) := by decide +kernel
theorem dX8_readsEntry_145 : decode cX8_readsEntry 145 = .ok (.iconst 2, 1) := by decide +kernel
theorem dX8_readsEntry_146 : decode cX8_readsEntry 146 = .ok (.iadd, 1) := by decide +kernel
theorem dX8_readsEntry_147 : decode cX8_readsEntry 147 = .ok (.iload_n 3, 1) := by decide +kernel
theorem dX8_readsEntry_148 : decode cX8_readsEntry 148 = .ok (.invokevirtual 158, 3) := by decide +kernel
theorem dX8_readsEntry_151 : decode cX8_readsEntry 151 = .ok (.iload_n 3, 1) := by decide +kernel
theorem dX8_readsEntry_152 : decode cX8_readsEntry 152 = .ok (.ifCond .le 7, 3) := by decide +kernel
theorem dX8_readsEntry_155 : decode cX8_readsEntry 155 = .ok (.iconst 1, 1) := by decide +kernel
theorem dX8_readsEntry_156 : decode cX8_readsEntry 156 = .ok (.goto 4, 3) := by decide +kernel
theorem dX8_readsEntry_159 : decode cX8_readsEntry 159 = .ok (.iconst 0, 1) := by decide +kernel
theorem dX8_readsEntry_160 : decode cX8_readsEntry 160 = .ok (.ireturn, 1) := by decide +kernel
theorem dX8_readsEntry_161 : decode cX8_readsEntry 161 = .ok (.aload_n 0, 1) := by decide +kernel
theorem dX8_readsEntry_162 : decode cX8_readsEntry 162 = .ok (.iconst 4, 1) := by decide +kernel
theorem dX8_readsEntry_163 : decode cX8_readsEntry 163 = .ok (.invokevirtual 151, 3) := by decide +kernel
theorem dX8_readsEntry_166 : decode cX8_readsEntry 166 = .ok (.istore_n 3, 1) := by decide +kernel
theorem dX8_readsEntry_167 : decode cX8_readsEntry 167 = .ok (.iload_n 3, 1) := by decide +kernel
theorem dX8_readsEntry_168 : decode cX8_readsEntry 168 = .ok (.ifCond .eq 34, 3) := by decide +kernel
theorem dX8_readsEntry_171 : decode cX8_readsEntry 171 = .ok (.aload_n 0, 1) := by decide +kernel
theorem dX8_readsEntry_172 : decode cX8_readsEntry 172 = .ok (.bipush 61, 2) := by decide +kernel
theorem dX8_readsEntry_174 : decode cX8_readsEntry 174 = .ok (.invokevirtual 148, 3) := by decide +kernel
theorem dX8_readsEntry_177 : decode cX8_readsEntry 177 = .ok (.ifCond .eq 25, 3) := by decide +kernel
theorem dX8_readsEntry_180 : decode cX8_readsEntry 180 = .ok (.aload_n 0, 1) := by decide +kernel
theorem dX8_readsEntry_181 : decode cX8_readsEntry 181 = .ok (.bipush 65, 2) := by decide +kernel
theorem dX8_readsEntry_183 : decode cX8_readsEntry 183 = .ok (.bipush 90, 2) := by decide +kernel
theorem dX8_readsEntry_185 : decode cX8_readsEntry 185 = .ok (.invokevirtual 145, 3) := by decide +kernel
theorem dX8_readsEntry_188 : decode cX8_readsEntry 188 = .ok (.ifCond .ne 16, 3) := by decide +kernel
theorem dX8_readsEntry_191 : decode cX8_readsEntry 191 = .ok (.aload_n 0, 1) := by decide +kernel
theorem dX8_readsEntry_192 : decode cX8_readsEntry 192 = .ok (.bipush 95, 2) := by decide +kernel
theorem dX8_readsEntry_194 : decode cX8_readsEntry 194 = .ok (.bipush 95, 2) := by decide +kernel
theorem dX8_readsEntry_196 : decode cX8_readsEntry 196 = .ok (.invokevirtual 145, 3) := by decide +kernel
theorem dX8_readsEntry_199 : decode cX8_readsEntry 199 = .ok (.ifCond .ne 5, 3) := by decide +kernel
theorem dX8_readsEntry_202 : decode cX8_readsEntry 202 = .ok (.iconst 0, 1) := by decide +kernel
theorem dX8_readsEntry_203 : decode cX8_readsEntry 203 = .ok (.ireturn, 1) := by decide +kernel
theorem dX8_readsEntry_204 : decode cX8_readsEntry 204 = .ok (.aload_n 0, 1) := by decide +kernel
theorem dX8_readsEntry_205 : decode cX8_readsEntry 205 = .ok (.getfield 43, 3) := by decide +kernel
theorem dX8_readsEntry_208 : decode cX8_readsEntry 208 = .ok (.aload_n 0, 1) := by decide +kernel
theorem dX8_readsEntry_209 : decode cX8_readsEntry 209 = .ok (.getfield 142, 3) := by decide +kernel
theorem dX8_readsEntry_212 : decode cX8_readsEntry 212 = .ok (.iaload, 1) := by decide +kernel
theorem dX8_readsEntry_213 : decode cX8_readsEntry 213 = .ok (.bipush 95, 2) := by decide +kernel
theorem dX8_readsEntry_215 : decode cX8_readsEntry 215 = .ok (.if_icmp .ne 7, 3) := by decide +kernel
theorem dX8_readsEntry_218 : decode cX8_readsEntry 218 = .ok (.iconst (-1), 1) := by decide +kernel
theorem dX8_readsEntry_219 : decode cX8_readsEntry 219 = .ok (.goto 12, 3) := by decide +kernel
theorem dX8_readsEntry_222 : decode cX8_readsEntry 222 = .ok (.aload_n 0, 1) := by decide +kernel
theorem dX8_readsEntry_223 : decode cX8_readsEntry 223 = .ok (.getfield 43, 3) := by decide +kernel
theorem dX8_readsEntry_226 : decode cX8_readsEntry 226 = .ok (.aload_n 0, 1) := by decide +kernel
theorem dX8_readsEntry_227 : decode cX8_readsEntry 227 = .ok (.getfield 142, 3) := by decide +kernel
theorem dX8_readsEntry_230 : decode cX8_readsEntry 230 = .ok (.iaload, 1) := by decide +kernel
theorem dX8_readsEntry_231 : decode cX8_readsEntry 231 = .ok (.istore 4, 2) := by decide +kernel
theorem dX8_readsEntry_233 : decode cX8_readsEntry 233 = .ok (.aload_n 0, 1) := by decide +kernel
theorem dX8_readsEntry_234 : decode cX8_readsEntry 234 = .ok (.dup, 1) := by decide +kernel
theorem dX8_readsEntry_235 : decode cX8_readsEntry 235 = .ok (.getfield 142, 3) := by decide +kernel
theorem dX8_readsEntry_238 : decode cX8_readsEntry 238 = .ok (.iconst 1, 1) := by decide +kernel
theorem dX8_readsEntry_239 : decode cX8_readsEntry 239 = .ok (.iadd, 1) := by decide +kernel
theorem dX8_readsEntry_240 : decode cX8_readsEntry 240 = .ok (.putfield 142, 3) := by decide +kernel
theorem dX8_readsEntry_243 : decode cX8_readsEntry 243 = .ok (.aload_n 0, 1) := by decide +kernel
theorem dX8_readsEntry_244 : decode cX8_readsEntry 244 = .ok (.getfield 142, 3) := by decide +kernel
theorem dX8_readsEntry_247 : decode cX8_readsEntry 247 = .ok (.aload_n 0, 1) := by decide +kernel
theorem dX8_readsEntry_248 : decode cX8_readsEntry 248 = .ok (.getfield 139, 3) := by decide +kernel
theorem dX8_readsEntry_251 : decode cX8_readsEntry 251 = .ok (.if_icmp .ge 18, 3) := by decide +kernel
theorem dX8_readsEntry_254 : decode cX8_readsEntry 254 = .ok (.aload_n 0, 1) := by decide +kernel
theorem dX8_readsEntry_255 : decode cX8_readsEntry 255 = .ok (.getfield 43, 3) := by decide +kernel
theorem dX8_readsEntry_258 : decode cX8_readsEntry 258 = .ok (.aload_n 0, 1) := by decide +kernel
theorem dX8_readsEntry_259 : decode cX8_readsEntry 259 = .ok (.getfield 142, 3) := by decide +kernel
theorem dX8_readsEntry_262 : decode cX8_readsEntry 262 = .ok (.iaload, 1) := by decide +kernel
theorem dX8_readsEntry_263 : decode cX8_readsEntry 263 = .ok (.invokestatic 161, 3) := by decide +kernel
theorem dX8_readsEntry_266 : decode cX8_readsEntry 266 = .ok (.goto 4, 3) := by decide +kernel
theorem dX8_readsEntry_269 : decode cX8_readsEntry 269 = .ok (.iconst 0, 1) := by decide +kernel
theorem dX8_readsEntry_270 : decode cX8_readsEntry 270 = .ok (.istore 5, 2) := by decide +kernel
theorem dX8_readsEntry_272 : decode cX8_readsEntry 272 = .ok (.aload_n 0, 1) := by decide +kernel
theorem dX8_readsEntry_273 : decode cX8_readsEntry 273 = .ok (.dup, 1) := by decide +kernel
theorem dX8_readsEntry_274 : decode cX8_readsEntry 274 = .ok (.getfield 142, 3) := by decide +kernel
theorem dX8_readsEntry_277 : decode cX8_readsEntry 277 = .ok (.iload 5, 2) := by decide +kernel
theorem dX8_readsEntry_279 : decode cX8_readsEntry 279 = .ok (.ifCond .le 7, 3) := by decide +kernel
theorem dX8_readsEntry_282 : decode cX8_readsEntry 282 = .ok (.iconst 1, 1) := by decide +kernel
theorem dX8_readsEntry_283 : decode cX8_readsEntry 283 = .ok (.goto 4, 3) := by decide +kernel
theorem dX8_readsEntry_286 : decode cX8_readsEntry 286 = .ok (.iconst 0, 1) := by decide +kernel
theorem dX8_readsEntry_287 : decode cX8_readsEntry 287 = .ok (.iadd, 1) := by decide +kernel
theorem dX8_readsEntry_288 : decode cX8_readsEntry 288 = .ok (.putfield 142, 3) := by decide +kernel
theorem dX8_readsEntry_291 : decode cX8_readsEntry 291 = .ok (.iload_n 1, 1) := by decide +kernel
theorem dX8_readsEntry_292 : decode cX8_readsEntry 292 = .ok (.ifCond .eq 13, 3) := by decide +kernel
theorem dX8_readsEntry_295 : decode cX8_readsEntry 295 = .ok (.aload_n 0, 1) := by decide +kernel
theorem dX8_readsEntry_296 : decode cX8_readsEntry 296 = .ok (.iload_n 2, 1) := by decide +kernel
theorem dX8_readsEntry_297 : decode cX8_readsEntry 297 = .ok (.iload_n 3, 1) := by decide +kernel
theorem dX8_readsEntry_298 : decode cX8_readsEntry 298 = .ok (.iload 4, 2) := by decide +kernel
theorem dX8_readsEntry_300 : decode cX8_readsEntry 300 = .ok (.iload 5, 2) := by decide +kernel
theorem dX8_readsEntry_302 : decode cX8_readsEntry 302 = .ok (.invokevirtual 164, 3) := by decide +kernel
theorem dX8_readsEntry_305 : decode cX8_readsEntry 305 = .ok (.iconst 1, 1) := by decide +kernel
theorem dX8_readsEntry_306 : decode cX8_readsEntry 306 = .ok (.ireturn, 1) := by decide +kernel
set_option maxRecDepth 20000 in
theorem ggX8_faultOfEntries_X8_readsEntry : GoodIn wsX8_faultOfEntries wsX8_readsEntry := goodIn_r _ [7, 1, 8, 2, 9, 10, 11, 6, 12, 13, 14, 15, 16, 17, 18, 19, 20, 21, 22, 23, 24, 25, 26, 27, 28, 29, 30, 31, 32, 33, 34, 35, 36, 37, 38, 39, 40, 41, 42, 43, 44, 45, 46, 47, 48, 49, 50, 51, 52, 53, 54, 55, 56, 57, 58, 59, 60, 61, 62, 63, 64, 65, 66, 67, 68, 69, 70, 71, 72, 73, 74, 75, 76, 77, 78, 79, 80, 81, 82, 83, 84, 85, 86, 87, 88, 89] (by decide +kernel) (by decide +kernel)
set_option maxRecDepth 20000 in
theorem gX8_faultOfEntries_X8_readsEntry : GoodIn wsX8_faultOfEntries (wsV RX8 168 RX8 yX8_readsEntry wsX8_readsEntry) := goodIn_app (goodIn_of _ (by decide +kernel)) ggX8_faultOfEntries_X8_readsEntry
set_option maxRecDepth 20000 in
theorem ggX8_faultOfEntries_X8_takes : GoodIn wsX8_faultOfEntries wsX8_takes := goodIn_r _ [12, 1, 13, 14, 15, 6, 16, 2, 8, 17, 18, 19, 62, 63, 64, 65, 66, 67, 68, 69, 70, 71, 72, 73, 74, 75, 76, 77, 78, 79, 80, 81, 82, 83, 84, 85, 86, 87, 88, 89] (by decide +kernel) (by decide +kernel)
set_option maxRecDepth 20000 in
theorem gX8_faultOfEntries_X8_takes : GoodIn wsX8_faultOfEntries (wsV RX8 148 RX8 yX8_takes wsX8_takes) := goodIn_app (goodIn_of _ (by decide +kernel)) ggX8_faultOfEntries_X8_takes
theorem dX8_faultOfEntries_0 : decode cX8_faultOfEntries 0 = .ok (.aload_n 0, 1) := by decide +kernel
theorem dX8_faultOfEntries_1 : decode cX8_faultOfEntries 1 = .ok (.iconst 0, 1) := by decide +kernel
theorem dX8_faultOfEntries_2 : decode cX8_faultOfEntries 2 = .ok (.putfield 142, 3) := by decide +kernel
theorem dX8_faultOfEntries_5 : decode cX8_faultOfEntries 5 = .ok (.iconst 1, 1) := by decide +kernel
theorem dX8_faultOfEntries_6 : decode cX8_faultOfEntries 6 = .ok (.istore_n 1, 1) := by decide +kernel
theorem dX8_faultOfEntries_7 : decode cX8_faultOfEntries 7 = .ok (.iload_n 1, 1) := by decide +kernel
theorem dX8_faultOfEntries_8 : decode cX8_faultOfEntries 8 = .ok (.ifCond .eq 26, 3) := by decide +kernel
theorem dX8_faultOfEntries_11 : decode cX8_faultOfEntries 11 = .ok (.aload_n 0, 1) := by decide +kernel
theorem dX8_faultOfEntries_12 : decode cX8_faultOfEntries 12 = .ok (.iconst 0, 1) := by decide +kernel
theorem dX8_faultOfEntries_13 : decode cX8_faultOfEntries 13 = .ok (.invokevirtual 168, 3) := by decide +kernel
theorem dX8_faultOfEntries_16 : decode cX8_faultOfEntries 16 = .ok (.ifCond .ne 8, 3) := by decide +kernel
theorem dX8_faultOfEntries_19 : decode cX8_faultOfEntries 19 = .ok (.aload_n 0, 1) := by decide +kernel
theorem dX8_faultOfEntries_20 : decode cX8_faultOfEntries 20 = .ok (.getfield 142, 3) := by decide +kernel
theorem dX8_faultOfEntries_23 : decode cX8_faultOfEntries 23 = .ok (.ireturn, 1) := by decide +kernel
theorem dX8_faultOfEntries_24 : decode cX8_faultOfEntries 24 = .ok (.aload_n 0, 1) := by decide +kernel
theorem dX8_faultOfEntries_25 : decode cX8_faultOfEntries 25 = .ok (.bipush 44, 2) := by decide +kernel
theorem dX8_faultOfEntries_27 : decode cX8_faultOfEntries 27 = .ok (.invokevirtual 148, 3) := by decide +kernel
theorem dX8_faultOfEntries_30 : decode cX8_faultOfEntries 30 = .ok (.istore_n 1, 1) := by decide +kernel
theorem dX8_faultOfEntries_31 : decode cX8_faultOfEntries 31 = .ok (.goto (-24), 3) := by decide +kernel
theorem dX8_faultOfEntries_34 : decode cX8_faultOfEntries 34 = .ok (.aload_n 0, 1) := by decide +kernel
theorem dX8_faultOfEntries_35 : decode cX8_faultOfEntries 35 = .ok (.getfield 142, 3) := by decide +kernel
theorem dX8_faultOfEntries_38 : decode cX8_faultOfEntries 38 = .ok (.aload_n 0, 1) := by decide +kernel
theorem dX8_faultOfEntries_39 : decode cX8_faultOfEntries 39 = .ok (.getfield 139, 3) := by decide +kernel
theorem dX8_faultOfEntries_42 : decode cX8_faultOfEntries 42 = .ok (.if_icmp .ne 8, 3) := by decide +kernel
theorem dX8_faultOfEntries_45 : decode cX8_faultOfEntries 45 = .ok (.bipush (-5), 2) := by decide +kernel
theorem dX8_faultOfEntries_47 : decode cX8_faultOfEntries 47 = .ok (.goto 7, 3) := by decide +kernel
theorem dX8_faultOfEntries_50 : decode cX8_faultOfEntries 50 = .ok (.aload_n 0, 1) := by decide +kernel
theorem dX8_faultOfEntries_51 : decode cX8_faultOfEntries 51 = .ok (.getfield 142, 3) := by decide +kernel
theorem dX8_faultOfEntries_54 : decode cX8_faultOfEntries 54 = .ok (.ireturn, 1) := by decide +kernel
theorem dX8_setsSign_0 : decode cX8_setsSign 0 = .ok (.aload_n 0, 1) := by decide +kernel
theorem dX8_setsSign_1 : decode cX8_setsSign 1 = .ok (.getfield 7, 3) := by decide +kernel
theorem dX8_setsSign_4 : decode cX8_setsSign 4 = .ok (.sipush 212, 3) := by decide +kernel
theorem dX8_setsSign_7 : decode cX8_setsSign 7 = .ok (.iconst 3, 1) := by decide +kernel
theorem dX8_setsSign_8 : decode cX8_setsSign 8 = .ok (.iload_n 1, 1) := by decide +kernel
theorem dX8_setsSign_9 : decode cX8_setsSign 9 = .ok (.imul, 1) := by decide +kernel
theorem dX8_setsSign_10 : decode cX8_setsSign 10 = .ok (.iadd, 1) := by decide +kernel
theorem dX8_setsSign_11 : decode cX8_setsSign 11 = .ok (.iload_n 3, 1) := by decide +kernel
theorem dX8_setsSign_12 : decode cX8_setsSign 12 = .ok (.iastore, 1) := by decide +kernel
theorem dX8_setsSign_13 : decode cX8_setsSign 13 = .ok (.iconst 0, 1) := by decide +kernel
theorem dX8_setsSign_14 : decode cX8_setsSign 14 = .ok (.istore 4, 2) := by decide +kernel
theorem dX8_setsSign_16 : decode cX8_setsSign 16 = .ok (.iload 4, 2) := by decide +kernel
theorem dX8_setsSign_18 : decode cX8_setsSign 18 = .ok (.iload_n 3, 1) := by decide +kernel
theorem dX8_setsSign_19 : decode cX8_setsSign 19 = .ok (.if_icmp .ge 35, 3) := by decide +kernel
theorem dX8_setsSign_22 : decode cX8_setsSign 22 = .ok (.aload_n 0, 1) := by decide +kernel
theorem dX8_setsSign_23 : decode cX8_setsSign 23 = .ok (.getfield 7, 3) := by decide +kernel
theorem dX8_setsSign_26 : decode cX8_setsSign 26 = .ok (.sipush 212, 3) := by decide +kernel
theorem dX8_setsSign_29 : decode cX8_setsSign 29 = .ok (.iconst 3, 1) := by decide +kernel
theorem dX8_setsSign_30 : decode cX8_setsSign 30 = .ok (.iload_n 1, 1) := by decide +kernel
theorem dX8_setsSign_31 : decode cX8_setsSign 31 = .ok (.imul, 1) := by decide +kernel
theorem dX8_setsSign_32 : decode cX8_setsSign 32 = .ok (.iadd, 1) := by decide +kernel
theorem dX8_setsSign_33 : decode cX8_setsSign 33 = .ok (.iconst 1, 1) := by decide +kernel
theorem dX8_setsSign_34 : decode cX8_setsSign 34 = .ok (.iadd, 1) := by decide +kernel
theorem dX8_setsSign_35 : decode cX8_setsSign 35 = .ok (.iload 4, 2) := by decide +kernel
theorem dX8_setsSign_37 : decode cX8_setsSign 37 = .ok (.iadd, 1) := by decide +kernel
theorem dX8_setsSign_38 : decode cX8_setsSign 38 = .ok (.aload_n 0, 1) := by decide +kernel
theorem dX8_setsSign_39 : decode cX8_setsSign 39 = .ok (.getfield 43, 3) := by decide +kernel
theorem dX8_setsSign_42 : decode cX8_setsSign 42 = .ok (.iload_n 2, 1) := by decide +kernel
theorem dX8_setsSign_43 : decode cX8_setsSign 43 = .ok (.iload 4, 2) := by decide +kernel
theorem dX8_setsSign_45 : decode cX8_setsSign 45 = .ok (.iadd, 1) := by decide +kernel
theorem dX8_setsSign_46 : decode cX8_setsSign 46 = .ok (.iaload, 1) := by decide +kernel
theorem dX8_setsSign_47 : decode cX8_setsSign 47 = .ok (.iastore, 1) := by decide +kernel
theorem dX8_setsSign_48 : decode cX8_setsSign 48 = .ok (.iinc 4 1, 3) := by decide +kernel
theorem dX8_setsSign_51 : decode cX8_setsSign 51 = .ok (.goto (-35), 3) := by decide +kernel
theorem dX8_setsSign_54 : decode cX8_setsSign 54 = .ok (.return_, 1) := by decide +kernel
theorem dX8_isAt_0 : decode cX8_isAt 0 = .ok (.aload_n 0, 1) := by decide +kernel
theorem dX8_isAt_1 : decode cX8_isAt 1 = .ok (.getfield 7, 3) := by decide +kernel
theorem dX8_isAt_4 : decode cX8_isAt 4 = .ok (.iload_n 1, 1) := by decide +kernel
theorem dX8_isAt_5 : decode cX8_isAt 5 = .ok (.iaload, 1) := by decide +kernel
theorem dX8_isAt_6 : decode cX8_isAt 6 = .ok (.iload_n 3, 1) := by decide +kernel
theorem dX8_isAt_7 : decode cX8_isAt 7 = .ok (.if_icmp .ne 7, 3) := by decide +kernel
theorem dX8_isAt_10 : decode cX8_isAt 10 = .ok (.iconst 1, 1) := by decide +kernel
theorem dX8_isAt_11 : decode cX8_isAt 11 = .ok (.goto 4, 3) := by decide +kernel
theorem dX8_isAt_14 : decode cX8_isAt 14 = .ok (.iconst 0, 1) := by decide +kernel
theorem dX8_isAt_15 : decode cX8_isAt 15 = .ok (.istore 4, 2) := by decide +kernel
theorem dX8_isAt_17 : decode cX8_isAt 17 = .ok (.iconst 0, 1) := by decide +kernel
theorem dX8_isAt_18 : decode cX8_isAt 18 = .ok (.istore 5, 2) := by decide +kernel
theorem dX8_isAt_20 : decode cX8_isAt 20 = .ok (.iload 5, 2) := by decide +kernel
theorem dX8_isAt_22 : decode cX8_isAt 22 = .ok (.iload_n 3, 1) := by decide +kernel
theorem dX8_isAt_23 : decode cX8_isAt 23 = .ok (.if_icmp .ge 44, 3) := by decide +kernel
theorem dX8_isAt_26 : decode cX8_isAt 26 = .ok (.iload 4, 2) := by decide +kernel
theorem dX8_isAt_28 : decode cX8_isAt 28 = .ok (.ifCond .eq 39, 3) := by decide +kernel
theorem dX8_isAt_31 : decode cX8_isAt 31 = .ok (.aload_n 0, 1) := by decide +kernel
theorem dX8_isAt_32 : decode cX8_isAt 32 = .ok (.getfield 7, 3) := by decide +kernel
theorem dX8_isAt_35 : decode cX8_isAt 35 = .ok (.iload_n 1, 1) := by decide +kernel
theorem dX8_isAt_36 : decode cX8_isAt 36 = .ok (.iconst 1, 1) := by decide +kernel
theorem dX8_isAt_37 : decode cX8_isAt 37 = .ok (.iadd, 1) := by decide +kernel
theorem dX8_isAt_38 : decode cX8_isAt 38 = .ok (.iload 5, 2) := by decide +kernel
theorem dX8_isAt_40 : decode cX8_isAt 40 = .ok (.iadd, 1) := by decide +kernel
theorem dX8_isAt_41 : decode cX8_isAt 41 = .ok (.iaload, 1) := by decide +kernel
theorem dX8_isAt_42 : decode cX8_isAt 42 = .ok (.aload_n 0, 1) := by decide +kernel
theorem dX8_isAt_43 : decode cX8_isAt 43 = .ok (.getfield 43, 3) := by decide +kernel
theorem dX8_isAt_46 : decode cX8_isAt 46 = .ok (.iload_n 2, 1) := by decide +kernel
theorem dX8_isAt_47 : decode cX8_isAt 47 = .ok (.iload 5, 2) := by decide +kernel
theorem dX8_isAt_49 : decode cX8_isAt 49 = .ok (.iadd, 1) := by decide +kernel
theorem dX8_isAt_50 : decode cX8_isAt 50 = .ok (.iaload, 1) := by decide +kernel
theorem dX8_isAt_51 : decode cX8_isAt 51 = .ok (.if_icmp .ne 7, 3) := by decide +kernel
theorem dX8_isAt_54 : decode cX8_isAt 54 = .ok (.iconst 1, 1) := by decide +kernel
theorem dX8_isAt_55 : decode cX8_isAt 55 = .ok (.goto 4, 3) := by decide +kernel
theorem dX8_isAt_58 : decode cX8_isAt 58 = .ok (.iconst 0, 1) := by decide +kernel
theorem dX8_isAt_59 : decode cX8_isAt 59 = .ok (.istore 4, 2) := by decide +kernel
theorem dX8_isAt_61 : decode cX8_isAt 61 = .ok (.iinc 5 1, 3) := by decide +kernel
theorem dX8_isAt_64 : decode cX8_isAt 64 = .ok (.goto (-44), 3) := by decide +kernel
theorem dX8_isAt_67 : decode cX8_isAt 67 = .ok (.iload 4, 2) := by decide +kernel
theorem dX8_isAt_69 : decode cX8_isAt 69 = .ok (.ireturn, 1) := by decide +kernel
theorem dX8_isBeyond_0 : decode cX8_isBeyond 0 = .ok (.iconst 0, 1) := by decide +kernel
theorem dX8_isBeyond_1 : decode cX8_isBeyond 1 = .ok (.istore 4, 2) := by decide +kernel
theorem dX8_isBeyond_3 : decode cX8_isBeyond 3 = .ok (.iconst 0, 1) := by decide +kernel
theorem dX8_isBeyond_4 : decode cX8_isBeyond 4 = .ok (.istore 5, 2) := by decide +kernel
theorem dX8_isBeyond_6 : decode cX8_isBeyond 6 = .ok (.iload 5, 2) := by decide +kernel
theorem dX8_isBeyond_8 : decode cX8_isBeyond 8 = .ok (.aload_n 0, 1) := by decide +kernel
theorem dX8_isBeyond_9 : decode cX8_isBeyond 9 = .ok (.getfield 172, 3) := by decide +kernel
theorem dX8_isBeyond_12 : decode cX8_isBeyond 12 = .ok (.if_icmp .ge 113, 3) := by decide +kernel
theorem dX8_isBeyond_15 : decode cX8_isBeyond 15 = .ok (.aload_n 0, 1) := by decide +kernel
theorem dX8_isBeyond_16 : decode cX8_isBeyond 16 = .ok (.getfield 46, 3) := by decide +kernel
theorem dX8_isBeyond_19 : decode cX8_isBeyond 19 = .ok (.iload 5, 2) := by decide +kernel
theorem dX8_isBeyond_21 : decode cX8_isBeyond 21 = .ok (.iconst 1, 1) := by decide +kernel
theorem dX8_isBeyond_22 : decode cX8_isBeyond 22 = .ok (.iadd, 1) := by decide +kernel
theorem dX8_isBeyond_23 : decode cX8_isBeyond 23 = .ok (.iaload, 1) := by decide +kernel
theorem dX8_isBeyond_24 : decode cX8_isBeyond 24 = .ok (.iload_n 2, 1) := by decide +kernel
theorem dX8_isBeyond_25 : decode cX8_isBeyond 25 = .ok (.if_icmp .ne 20, 3) := by decide +kernel
theorem dX8_isBeyond_28 : decode cX8_isBeyond 28 = .ok (.aload_n 0, 1) := by decide +kernel
theorem dX8_isBeyond_29 : decode cX8_isBeyond 29 = .ok (.getfield 46, 3) := by decide +kernel
theorem dX8_isBeyond_32 : decode cX8_isBeyond 32 = .ok (.iload 5, 2) := by decide +kernel
theorem dX8_isBeyond_34 : decode cX8_isBeyond 34 = .ok (.iconst 2, 1) := by decide +kernel
theorem dX8_isBeyond_35 : decode cX8_isBeyond 35 = .ok (.iadd, 1) := by decide +kernel
theorem dX8_isBeyond_36 : decode cX8_isBeyond 36 = .ok (.iaload, 1) := by decide +kernel
theorem dX8_isBeyond_37 : decode cX8_isBeyond 37 = .ok (.iload_n 3, 1) := by decide +kernel
theorem dX8_isBeyond_38 : decode cX8_isBeyond 38 = .ok (.if_icmp .ne 7, 3) := by decide +kernel
theorem dX8_isBeyond_41 : decode cX8_isBeyond 41 = .ok (.iconst 1, 1) := by decide +kernel
theorem dX8_isBeyond_42 : decode cX8_isBeyond 42 = .ok (.goto 4, 3) := by decide +kernel
theorem dX8_isBeyond_45 : decode cX8_isBeyond 45 = .ok (.iconst 0, 1) := by decide +kernel
theorem dX8_isBeyond_46 : decode cX8_isBeyond 46 = .ok (.istore 6, 2) := by decide +kernel
theorem dX8_isBeyond_48 : decode cX8_isBeyond 48 = .ok (.iconst 0, 1) := by decide +kernel
theorem dX8_isBeyond_49 : decode cX8_isBeyond 49 = .ok (.istore 7, 2) := by decide +kernel
theorem dX8_isBeyond_51 : decode cX8_isBeyond 51 = .ok (.iload 7, 2) := by decide +kernel
theorem dX8_isBeyond_53 : decode cX8_isBeyond 53 = .ok (.iload_n 2, 1) := by decide +kernel
theorem dX8_isBeyond_54 : decode cX8_isBeyond 54 = .ok (.if_icmp .ge 48, 3) := by decide +kernel
theorem dX8_isBeyond_57 : decode cX8_isBeyond 57 = .ok (.iload 6, 2) := by decide +kernel
theorem dX8_isBeyond_59 : decode cX8_isBeyond 59 = .ok (.ifCond .eq 43, 3) := by decide +kernel
theorem dX8_isBeyond_62 : decode cX8_isBeyond 62 = .ok (.aload_n 0, 1) := by decide +kernel
theorem dX8_isBeyond_63 : decode cX8_isBeyond 63 = .ok (.getfield 43, 3) := by decide +kernel
theorem dX8_isBeyond_66 : decode cX8_isBeyond 66 = .ok (.aload_n 0, 1) := by decide +kernel
theorem dX8_isBeyond_67 : decode cX8_isBeyond 67 = .ok (.getfield 46, 3) := by decide +kernel
theorem dX8_isBeyond_70 : decode cX8_isBeyond 70 = .ok (.iload 5, 2) := by decide +kernel
theorem dX8_isBeyond_72 : decode cX8_isBeyond 72 = .ok (.iaload, 1) := by decide +kernel
theorem dX8_isBeyond_73 : decode cX8_isBeyond 73 = .ok (.iload 7, 2) := by decide +kernel
theorem dX8_isBeyond_75 : decode cX8_isBeyond 75 = .ok (.iadd, 1) := by decide +kernel
theorem dX8_isBeyond_76 : decode cX8_isBeyond 76 = .ok (.iaload, 1) := by decide +kernel
theorem dX8_isBeyond_77 : decode cX8_isBeyond 77 = .ok (.aload_n 0, 1) := by decide +kernel
theorem dX8_isBeyond_78 : decode cX8_isBeyond 78 = .ok (.getfield 43, 3) := by decide +kernel
theorem dX8_isBeyond_81 : decode cX8_isBeyond 81 = .ok (.iload_n 1, 1) := by decide +kernel
theorem dX8_isBeyond_82 : decode cX8_isBeyond 82 = .ok (.iload 7, 2) := by decide +kernel
theorem dX8_isBeyond_84 : decode cX8_isBeyond 84 = .ok (.iadd, 1) := by decide +kernel
theorem dX8_isBeyond_85 : decode cX8_isBeyond 85 = .ok (.iaload, 1) := by decide +kernel
theorem dX8_isBeyond_86 : decode cX8_isBeyond 86 = .ok (.if_icmp .ne 7, 3) := by decide +kernel
theorem dX8_isBeyond_89 : decode cX8_isBeyond 89 = .ok (.iconst 1, 1) := by decide +kernel
theorem dX8_isBeyond_90 : decode cX8_isBeyond 90 = .ok (.goto 4, 3) := by decide +kernel
theorem dX8_isBeyond_93 : decode cX8_isBeyond 93 = .ok (.iconst 0, 1) := by decide +kernel
theorem dX8_isBeyond_94 : decode cX8_isBeyond 94 = .ok (.istore 6, 2) := by decide +kernel
theorem dX8_isBeyond_96 : decode cX8_isBeyond 96 = .ok (.iinc 7 1, 3) := by decide +kernel
theorem dX8_isBeyond_99 : decode cX8_isBeyond 99 = .ok (.goto (-48), 3) := by decide +kernel
theorem dX8_isBeyond_102 : decode cX8_isBeyond 102 = .ok (.iload 4, 2) := by decide +kernel
theorem dX8_isBeyond_104 : decode cX8_isBeyond 104 = .ok (.ifCond .ne 8, 3) := by decide +kernel
theorem dX8_isBeyond_107 : decode cX8_isBeyond 107 = .ok (.iload 6, 2) := by decide +kernel
theorem dX8_isBeyond_109 : decode cX8_isBeyond 109 = .ok (.ifCond .eq 7, 3) := by decide +kernel
theorem dX8_isBeyond_112 : decode cX8_isBeyond 112 = .ok (.iconst 1, 1) := by decide +kernel
theorem dX8_isBeyond_113 : decode cX8_isBeyond 113 = .ok (.goto 4, 3) := by decide +kernel
theorem dX8_isBeyond_116 : decode cX8_isBeyond 116 = .ok (.iconst 0, 1) := by decide +kernel
theorem dX8_isBeyond_117 : decode cX8_isBeyond 117 = .ok (.istore 4, 2) := by decide +kernel
theorem dX8_isBeyond_119 : decode cX8_isBeyond 119 = .ok (.iinc 5 3, 3) := by decide +kernel
theorem dX8_isBeyond_122 : decode cX8_isBeyond 122 = .ok (.goto (-116), 3) := by decide +kernel
theorem dX8_isBeyond_125 : decode cX8_isBeyond 125 = .ok (.iload 4, 2) := by decide +kernel
theorem dX8_isBeyond_127 : decode cX8_isBeyond 127 = .ok (.ireturn, 1) := by decide +kernel
theorem dX8_goesBeyond_0 : decode cX8_goesBeyond 0 = .ok (.aload_n 0, 1) := by decide +kernel
theorem dX8_goesBeyond_1 : decode cX8_goesBeyond 1 = .ok (.iconst 1, 1) := by decide +kernel
theorem dX8_goesBeyond_2 : decode cX8_goesBeyond 2 = .ok (.putfield 175, 3) := by decide +kernel
theorem dX8_goesBeyond_5 : decode cX8_goesBeyond 5 = .ok (.aload_n 0, 1) := by decide +kernel
theorem dX8_goesBeyond_6 : decode cX8_goesBeyond 6 = .ok (.getfield 46, 3) := by decide +kernel
theorem dX8_goesBeyond_9 : decode cX8_goesBeyond 9 = .ok (.aload_n 0, 1) := by decide +kernel
theorem dX8_goesBeyond_10 : decode cX8_goesBeyond 10 = .ok (.getfield 172, 3) := by decide +kernel
theorem dX8_goesBeyond_13 : decode cX8_goesBeyond 13 = .ok (.iload_n 1, 1) := by decide +kernel
theorem dX8_goesBeyond_14 : decode cX8_goesBeyond 14 = .ok (.iastore, 1) := by decide +kernel
theorem dX8_goesBeyond_15 : decode cX8_goesBeyond 15 = .ok (.aload_n 0, 1) := by decide +kernel
theorem dX8_goesBeyond_16 : decode cX8_goesBeyond 16 = .ok (.getfield 46, 3) := by decide +kernel
theorem dX8_goesBeyond_19 : decode cX8_goesBeyond 19 = .ok (.aload_n 0, 1) := by decide +kernel
theorem dX8_goesBeyond_20 : decode cX8_goesBeyond 20 = .ok (.getfield 172, 3) := by decide +kernel
theorem dX8_goesBeyond_23 : decode cX8_goesBeyond 23 = .ok (.iconst 1, 1) := by decide +kernel
theorem dX8_goesBeyond_24 : decode cX8_goesBeyond 24 = .ok (.iadd, 1) := by decide +kernel
theorem dX8_goesBeyond_25 : decode cX8_goesBeyond 25 = .ok (.iload_n 2, 1) := by decide +kernel
theorem dX8_goesBeyond_26 : decode cX8_goesBeyond 26 = .ok (.iastore, 1) := by decide +kernel
theorem dX8_goesBeyond_27 : decode cX8_goesBeyond 27 = .ok (.aload_n 0, 1) := by decide +kernel
theorem dX8_goesBeyond_28 : decode cX8_goesBeyond 28 = .ok (.getfield 46, 3) := by decide +kernel
theorem dX8_goesBeyond_31 : decode cX8_goesBeyond 31 = .ok (.aload_n 0, 1) := by decide +kernel
theorem dX8_goesBeyond_32 : decode cX8_goesBeyond 32 = .ok (.getfield 172, 3) := by decide +kernel
theorem dX8_goesBeyond_35 : decode cX8_goesBeyond 35 = .ok (.iconst 2, 1) := by decide +kernel
theorem dX8_goesBeyond_36 : decode cX8_goesBeyond 36 = .ok (.iadd, 1) := by decide +kernel
theorem dX8_goesBeyond_37 : decode cX8_goesBeyond 37 = .ok (.iload_n 3, 1) := by decide +kernel
theorem dX8_goesBeyond_38 : decode cX8_goesBeyond 38 = .ok (.iastore, 1) := by decide +kernel
theorem dX8_goesBeyond_39 : decode cX8_goesBeyond 39 = .ok (.aload_n 0, 1) := by decide +kernel
theorem dX8_goesBeyond_40 : decode cX8_goesBeyond 40 = .ok (.dup, 1) := by decide +kernel
theorem dX8_goesBeyond_41 : decode cX8_goesBeyond 41 = .ok (.getfield 172, 3) := by decide +kernel
theorem dX8_goesBeyond_44 : decode cX8_goesBeyond 44 = .ok (.iconst 3, 1) := by decide +kernel
theorem dX8_goesBeyond_45 : decode cX8_goesBeyond 45 = .ok (.iadd, 1) := by decide +kernel
theorem dX8_goesBeyond_46 : decode cX8_goesBeyond 46 = .ok (.putfield 172, 3) := by decide +kernel
theorem dX8_goesBeyond_49 : decode cX8_goesBeyond 49 = .ok (.return_, 1) := by decide +kernel
set_option maxRecDepth 20000 in
theorem ggX8_addsRule_X8_isBeyond : GoodIn wsX8_addsRule wsX8_isBeyond := goodIn_r _ [8, 9, 10, 3, 23, 24, 25, 26, 27, 28, 29, 30, 31, 32, 33, 34, 35, 36, 37, 38, 39, 40, 41, 42, 43, 44, 45, 46, 47, 48, 49, 50] (by decide +kernel) (by decide +kernel)
set_option maxRecDepth 20000 in
theorem gX8_addsRule_X8_isBeyond : GoodIn wsX8_addsRule (wsV RX8 179 RX8 yX8_isBeyond wsX8_isBeyond) := goodIn_app (goodIn_of _ (by decide +kernel)) ggX8_addsRule_X8_isBeyond
set_option maxRecDepth 20000 in
theorem ggX8_addsRule_X8_ruleAt : GoodIn wsX8_addsRule wsX8_ruleAt := goodIn_r _ [13] (by decide +kernel) (by decide +kernel)
set_option maxRecDepth 20000 in
theorem gX8_addsRule_X8_ruleAt : GoodIn wsX8_addsRule (va_wsS RX8 70 yX8_ruleAt wsX8_ruleAt) := goodIn_app (goodIn_of _ (by decide +kernel)) ggX8_addsRule_X8_ruleAt
set_option maxRecDepth 20000 in
theorem ggX8_addsRule_X8_isAt : GoodIn wsX8_addsRule wsX8_isAt := goodIn_r _ [17, 1, 3, 23, 24, 25, 26, 27, 28, 29, 30, 31, 32, 33, 34, 35, 36, 37, 38, 39, 40, 41, 42, 43, 44, 45, 46, 47, 48, 49, 50] (by decide +kernel) (by decide +kernel)
set_option maxRecDepth 20000 in
theorem gX8_addsRule_X8_isAt : GoodIn wsX8_addsRule (wsV RX8 183 RX8 yX8_isAt wsX8_isAt) := goodIn_app (goodIn_of _ (by decide +kernel)) ggX8_addsRule_X8_isAt
set_option maxRecDepth 20000 in
theorem ggX8_addsRule_X8_goesBeyond : GoodIn wsX8_addsRule wsX8_goesBeyond := goodIn_r _ [21, 22, 10, 9, 23, 24, 25, 26, 27, 28, 29, 30, 31, 32, 33, 34, 35, 36, 37, 38, 39, 40, 41, 42, 43, 44, 45, 46, 47, 48, 49, 50] (by decide +kernel) (by decide +kernel)
set_option maxRecDepth 20000 in
theorem gX8_addsRule_X8_goesBeyond : GoodIn wsX8_addsRule (wsV RX8 189 RX8 yX8_goesBeyond wsX8_goesBeyond) := goodIn_app (goodIn_of _ (by decide +kernel)) ggX8_addsRule_X8_goesBeyond
theorem dX8_addsRule_0 : decode cX8_addsRule 0 = .ok (.aload_n 0, 1) := by decide +kernel
theorem dX8_addsRule_1 : decode cX8_addsRule 1 = .ok (.iload_n 1, 1) := by decide +kernel
theorem dX8_addsRule_2 : decode cX8_addsRule 2 = .ok (.iload_n 2, 1) := by decide +kernel
theorem dX8_addsRule_3 : decode cX8_addsRule 3 = .ok (.iload 4, 2) := by decide +kernel
theorem dX8_addsRule_5 : decode cX8_addsRule 5 = .ok (.invokevirtual 179, 3) := by decide +kernel
theorem dX8_addsRule_8 : decode cX8_addsRule 8 = .ok (.istore 5, 2) := by decide +kernel
theorem dX8_addsRule_10 : decode cX8_addsRule 10 = .ok (.iconst 0, 1) := by decide +kernel
theorem dX8_addsRule_11 : decode cX8_addsRule 11 = .ok (.istore 6, 2) := by decide +kernel
theorem dX8_addsRule_13 : decode cX8_addsRule 13 = .ok (.iload 6, 2) := by decide +kernel
theorem dX8_addsRule_15 : decode cX8_addsRule 15 = .ok (.aload_n 0, 1) := by decide +kernel
theorem dX8_addsRule_16 : decode cX8_addsRule 16 = .ok (.getfield 7, 3) := by decide +kernel
theorem dX8_addsRule_19 : decode cX8_addsRule 19 = .ok (.iconst 0, 1) := by decide +kernel
theorem dX8_addsRule_20 : decode cX8_addsRule 20 = .ok (.iaload, 1) := by decide +kernel
theorem dX8_addsRule_21 : decode cX8_addsRule 21 = .ok (.if_icmp .ge 53, 3) := by decide +kernel
theorem dX8_addsRule_24 : decode cX8_addsRule 24 = .ok (.iload 5, 2) := by decide +kernel
theorem dX8_addsRule_26 : decode cX8_addsRule 26 = .ok (.ifCond .ne 35, 3) := by decide +kernel
theorem dX8_addsRule_29 : decode cX8_addsRule 29 = .ok (.aload_n 0, 1) := by decide +kernel
theorem dX8_addsRule_30 : decode cX8_addsRule 30 = .ok (.iload 6, 2) := by decide +kernel
theorem dX8_addsRule_32 : decode cX8_addsRule 32 = .ok (.invokestatic 70, 3) := by decide +kernel
theorem dX8_addsRule_35 : decode cX8_addsRule 35 = .ok (.iload_n 1, 1) := by decide +kernel
theorem dX8_addsRule_36 : decode cX8_addsRule 36 = .ok (.iload_n 2, 1) := by decide +kernel
theorem dX8_addsRule_37 : decode cX8_addsRule 37 = .ok (.invokevirtual 183, 3) := by decide +kernel
theorem dX8_addsRule_40 : decode cX8_addsRule 40 = .ok (.ifCond .eq 25, 3) := by decide +kernel
theorem dX8_addsRule_43 : decode cX8_addsRule 43 = .ok (.aload_n 0, 1) := by decide +kernel
theorem dX8_addsRule_44 : decode cX8_addsRule 44 = .ok (.getfield 7, 3) := by decide +kernel
theorem dX8_addsRule_47 : decode cX8_addsRule 47 = .ok (.iload 6, 2) := by decide +kernel
theorem dX8_addsRule_49 : decode cX8_addsRule 49 = .ok (.invokestatic 70, 3) := by decide +kernel
theorem dX8_addsRule_52 : decode cX8_addsRule 52 = .ok (.bipush 6, 2) := by decide +kernel
theorem dX8_addsRule_54 : decode cX8_addsRule 54 = .ok (.iadd, 1) := by decide +kernel
theorem dX8_addsRule_55 : decode cX8_addsRule 55 = .ok (.iaload, 1) := by decide +kernel
theorem dX8_addsRule_56 : decode cX8_addsRule 56 = .ok (.iload 4, 2) := by decide +kernel
theorem dX8_addsRule_58 : decode cX8_addsRule 58 = .ok (.if_icmp .ne 7, 3) := by decide +kernel
theorem dX8_addsRule_61 : decode cX8_addsRule 61 = .ok (.iconst 1, 1) := by decide +kernel
theorem dX8_addsRule_62 : decode cX8_addsRule 62 = .ok (.goto 4, 3) := by decide +kernel
theorem dX8_addsRule_65 : decode cX8_addsRule 65 = .ok (.iconst 0, 1) := by decide +kernel
theorem dX8_addsRule_66 : decode cX8_addsRule 66 = .ok (.istore 5, 2) := by decide +kernel
theorem dX8_addsRule_68 : decode cX8_addsRule 68 = .ok (.iinc 6 1, 3) := by decide +kernel
theorem dX8_addsRule_71 : decode cX8_addsRule 71 = .ok (.goto (-58), 3) := by decide +kernel
theorem dX8_addsRule_74 : decode cX8_addsRule 74 = .ok (.aload_n 0, 1) := by decide +kernel
theorem dX8_addsRule_75 : decode cX8_addsRule 75 = .ok (.aload_n 0, 1) := by decide +kernel
theorem dX8_addsRule_76 : decode cX8_addsRule 76 = .ok (.getfield 186, 3) := by decide +kernel
theorem dX8_addsRule_79 : decode cX8_addsRule 79 = .ok (.ifCond .ne 8, 3) := by decide +kernel
theorem dX8_addsRule_82 : decode cX8_addsRule 82 = .ok (.iload 5, 2) := by decide +kernel
theorem dX8_addsRule_84 : decode cX8_addsRule 84 = .ok (.ifCond .eq 7, 3) := by decide +kernel
theorem dX8_addsRule_87 : decode cX8_addsRule 87 = .ok (.iconst 1, 1) := by decide +kernel
theorem dX8_addsRule_88 : decode cX8_addsRule 88 = .ok (.goto 4, 3) := by decide +kernel
theorem dX8_addsRule_91 : decode cX8_addsRule 91 = .ok (.iconst 0, 1) := by decide +kernel
theorem dX8_addsRule_92 : decode cX8_addsRule 92 = .ok (.putfield 186, 3) := by decide +kernel
theorem dX8_addsRule_95 : decode cX8_addsRule 95 = .ok (.aload_n 0, 1) := by decide +kernel
theorem dX8_addsRule_96 : decode cX8_addsRule 96 = .ok (.getfield 7, 3) := by decide +kernel
theorem dX8_addsRule_99 : decode cX8_addsRule 99 = .ok (.iconst 0, 1) := by decide +kernel
theorem dX8_addsRule_100 : decode cX8_addsRule 100 = .ok (.iaload, 1) := by decide +kernel
theorem dX8_addsRule_101 : decode cX8_addsRule 101 = .ok (.bipush 30, 2) := by decide +kernel
theorem dX8_addsRule_103 : decode cX8_addsRule 103 = .ok (.if_icmp .ne 12, 3) := by decide +kernel
theorem dX8_addsRule_106 : decode cX8_addsRule 106 = .ok (.aload_n 0, 1) := by decide +kernel
theorem dX8_addsRule_107 : decode cX8_addsRule 107 = .ok (.iload_n 1, 1) := by decide +kernel
theorem dX8_addsRule_108 : decode cX8_addsRule 108 = .ok (.iload_n 2, 1) := by decide +kernel
theorem dX8_addsRule_109 : decode cX8_addsRule 109 = .ok (.iload 4, 2) := by decide +kernel
theorem dX8_addsRule_111 : decode cX8_addsRule 111 = .ok (.invokevirtual 189, 3) := by decide +kernel
theorem dX8_addsRule_114 : decode cX8_addsRule 114 = .ok (.return_, 1) := by decide +kernel
theorem dX8_addsRule_115 : decode cX8_addsRule 115 = .ok (.aload_n 0, 1) := by decide +kernel
theorem dX8_addsRule_116 : decode cX8_addsRule 116 = .ok (.getfield 7, 3) := by decide +kernel
theorem dX8_addsRule_119 : decode cX8_addsRule 119 = .ok (.iconst 0, 1) := by decide +kernel
theorem dX8_addsRule_120 : decode cX8_addsRule 120 = .ok (.iaload, 1) := by decide +kernel
theorem dX8_addsRule_121 : decode cX8_addsRule 121 = .ok (.invokestatic 70, 3) := by decide +kernel
theorem dX8_addsRule_124 : decode cX8_addsRule 124 = .ok (.istore 6, 2) := by decide +kernel
theorem dX8_addsRule_126 : decode cX8_addsRule 126 = .ok (.aload_n 0, 1) := by decide +kernel
theorem dX8_addsRule_127 : decode cX8_addsRule 127 = .ok (.getfield 7, 3) := by decide +kernel
theorem dX8_addsRule_130 : decode cX8_addsRule 130 = .ok (.iload 6, 2) := by decide +kernel
theorem dX8_addsRule_132 : decode cX8_addsRule 132 = .ok (.iload_n 2, 1) := by decide +kernel
theorem dX8_addsRule_133 : decode cX8_addsRule 133 = .ok (.iastore, 1) := by decide +kernel
theorem dX8_addsRule_134 : decode cX8_addsRule 134 = .ok (.iconst 0, 1) := by decide +kernel
theorem dX8_addsRule_135 : decode cX8_addsRule 135 = .ok (.istore 7, 2) := by decide +kernel
theorem dX8_addsRule_137 : decode cX8_addsRule 137 = .ok (.iload 7, 2) := by decide +kernel
theorem dX8_addsRule_139 : decode cX8_addsRule 139 = .ok (.iload_n 2, 1) := by decide +kernel
theorem dX8_addsRule_140 : decode cX8_addsRule 140 = .ok (.if_icmp .ge 30, 3) := by decide +kernel
theorem dX8_addsRule_143 : decode cX8_addsRule 143 = .ok (.aload_n 0, 1) := by decide +kernel
theorem dX8_addsRule_144 : decode cX8_addsRule 144 = .ok (.getfield 7, 3) := by decide +kernel
theorem dX8_addsRule_147 : decode cX8_addsRule 147 = .ok (.iload 6, 2) := by decide +kernel
theorem dX8_addsRule_149 : decode cX8_addsRule 149 = .ok (.iconst 1, 1) := by decide +kernel
theorem dX8_addsRule_150 : decode cX8_addsRule 150 = .ok (.iadd, 1) := by decide +kernel
theorem dX8_addsRule_151 : decode cX8_addsRule 151 = .ok (.iload 7, 2) := by decide +kernel
theorem dX8_addsRule_153 : decode cX8_addsRule 153 = .ok (.iadd, 1) := by decide +kernel
theorem dX8_addsRule_154 : decode cX8_addsRule 154 = .ok (.aload_n 0, 1) := by decide +kernel
theorem dX8_addsRule_155 : decode cX8_addsRule 155 = .ok (.getfield 43, 3) := by decide +kernel
theorem dX8_addsRule_158 : decode cX8_addsRule 158 = .ok (.iload_n 1, 1) := by decide +kernel
theorem dX8_addsRule_159 : decode cX8_addsRule 159 = .ok (.iload 7, 2) := by decide +kernel
theorem dX8_addsRule_161 : decode cX8_addsRule 161 = .ok (.iadd, 1) := by decide +kernel
theorem dX8_addsRule_162 : decode cX8_addsRule 162 = .ok (.iaload, 1) := by decide +kernel
theorem dX8_addsRule_163 : decode cX8_addsRule 163 = .ok (.iastore, 1) := by decide +kernel
theorem dX8_addsRule_164 : decode cX8_addsRule 164 = .ok (.iinc 7 1, 3) := by decide +kernel
theorem dX8_addsRule_167 : decode cX8_addsRule 167 = .ok (.goto (-30), 3) := by decide +kernel
theorem dX8_addsRule_170 : decode cX8_addsRule 170 = .ok (.aload_n 0, 1) := by decide +kernel
theorem dX8_addsRule_171 : decode cX8_addsRule 171 = .ok (.getfield 7, 3) := by decide +kernel
theorem dX8_addsRule_174 : decode cX8_addsRule 174 = .ok (.iload 6, 2) := by decide +kernel
theorem dX8_addsRule_176 : decode cX8_addsRule 176 = .ok (.iconst 5, 1) := by decide +kernel
theorem dX8_addsRule_177 : decode cX8_addsRule 177 = .ok (.iadd, 1) := by decide +kernel
theorem dX8_addsRule_178 : decode cX8_addsRule 178 = .ok (.iload_n 3, 1) := by decide +kernel
theorem dX8_addsRule_179 : decode cX8_addsRule 179 = .ok (.iastore, 1) := by decide +kernel
theorem dX8_addsRule_180 : decode cX8_addsRule 180 = .ok (.aload_n 0, 1) := by decide +kernel
theorem dX8_addsRule_181 : decode cX8_addsRule 181 = .ok (.getfield 7, 3) := by decide +kernel
theorem dX8_addsRule_184 : decode cX8_addsRule 184 = .ok (.iload 6, 2) := by decide +kernel
theorem dX8_addsRule_186 : decode cX8_addsRule 186 = .ok (.bipush 6, 2) := by decide +kernel
theorem dX8_addsRule_188 : decode cX8_addsRule 188 = .ok (.iadd, 1) := by decide +kernel
theorem dX8_addsRule_189 : decode cX8_addsRule 189 = .ok (.iload 4, 2) := by decide +kernel
theorem dX8_addsRule_191 : decode cX8_addsRule 191 = .ok (.iastore, 1) := by decide +kernel
theorem dX8_addsRule_192 : decode cX8_addsRule 192 = .ok (.aload_n 0, 1) := by decide +kernel
theorem dX8_addsRule_193 : decode cX8_addsRule 193 = .ok (.getfield 7, 3) := by decide +kernel
theorem dX8_addsRule_196 : decode cX8_addsRule 196 = .ok (.iconst 0, 1) := by decide +kernel
theorem dX8_addsRule_197 : decode cX8_addsRule 197 = .ok (.dup2, 1) := by decide +kernel
theorem dX8_addsRule_198 : decode cX8_addsRule 198 = .ok (.iaload, 1) := by decide +kernel
theorem dX8_addsRule_199 : decode cX8_addsRule 199 = .ok (.iconst 1, 1) := by decide +kernel
theorem dX8_addsRule_200 : decode cX8_addsRule 200 = .ok (.iadd, 1) := by decide +kernel
theorem dX8_addsRule_201 : decode cX8_addsRule 201 = .ok (.iastore, 1) := by decide +kernel
theorem dX8_addsRule_202 : decode cX8_addsRule 202 = .ok (.return_, 1) := by decide +kernel
set_option maxRecDepth 20000 in
theorem ggX8_addsWord_X8_isBeyond : GoodIn wsX8_addsWord wsX8_isBeyond := goodIn_r _ [8, 9, 10, 3, 23, 24, 25, 26, 27, 28, 29, 30, 31, 32, 33, 34, 35, 36, 37, 38, 39, 40, 41, 42, 43, 44, 45, 46, 47, 48, 49, 50] (by decide +kernel) (by decide +kernel)
set_option maxRecDepth 20000 in
theorem gX8_addsWord_X8_isBeyond : GoodIn wsX8_addsWord (wsV RX8 179 RX8 yX8_isBeyond wsX8_isBeyond) := goodIn_app (goodIn_of _ (by decide +kernel)) ggX8_addsWord_X8_isBeyond
set_option maxRecDepth 20000 in
theorem ggX8_addsWord_X8_wordAt : GoodIn wsX8_addsWord wsX8_wordAt := goodIn_r _ [13] (by decide +kernel) (by decide +kernel)
set_option maxRecDepth 20000 in
theorem gX8_addsWord_X8_wordAt : GoodIn wsX8_addsWord (va_wsS RX8 100 yX8_wordAt wsX8_wordAt) := goodIn_app (goodIn_of _ (by decide +kernel)) ggX8_addsWord_X8_wordAt
set_option maxRecDepth 20000 in
theorem ggX8_addsWord_X8_isAt : GoodIn wsX8_addsWord wsX8_isAt := goodIn_r _ [17, 1, 3, 23, 24, 25, 26, 27, 28, 29, 30, 31, 32, 33, 34, 35, 36, 37, 38, 39, 40, 41, 42, 43, 44, 45, 46, 47, 48, 49, 50] (by decide +kernel) (by decide +kernel)
set_option maxRecDepth 20000 in
theorem gX8_addsWord_X8_isAt : GoodIn wsX8_addsWord (wsV RX8 183 RX8 yX8_isAt wsX8_isAt) := goodIn_app (goodIn_of _ (by decide +kernel)) ggX8_addsWord_X8_isAt
set_option maxRecDepth 20000 in
theorem ggX8_addsWord_X8_goesBeyond : GoodIn wsX8_addsWord wsX8_goesBeyond := goodIn_r _ [21, 22, 10, 9, 23, 24, 25, 26, 27, 28, 29, 30, 31, 32, 33, 34, 35, 36, 37, 38, 39, 40, 41, 42, 43, 44, 45, 46, 47, 48, 49, 50] (by decide +kernel) (by decide +kernel)
set_option maxRecDepth 20000 in
theorem gX8_addsWord_X8_goesBeyond : GoodIn wsX8_addsWord (wsV RX8 189 RX8 yX8_goesBeyond wsX8_goesBeyond) := goodIn_app (goodIn_of _ (by decide +kernel)) ggX8_addsWord_X8_goesBeyond
theorem dX8_addsWord_0 : decode cX8_addsWord 0 = .ok (.aload_n 0, 1) := by decide +kernel
theorem dX8_addsWord_1 : decode cX8_addsWord 1 = .ok (.iload_n 1, 1) := by decide +kernel
theorem dX8_addsWord_2 : decode cX8_addsWord 2 = .ok (.iload_n 2, 1) := by decide +kernel
theorem dX8_addsWord_3 : decode cX8_addsWord 3 = .ok (.bipush (-5), 2) := by decide +kernel
theorem dX8_addsWord_5 : decode cX8_addsWord 5 = .ok (.invokevirtual 179, 3) := by decide +kernel
theorem dX8_addsWord_8 : decode cX8_addsWord 8 = .ok (.istore 4, 2) := by decide +kernel
theorem dX8_addsWord_10 : decode cX8_addsWord 10 = .ok (.iconst 0, 1) := by decide +kernel
theorem dX8_addsWord_11 : decode cX8_addsWord 11 = .ok (.istore 5, 2) := by decide +kernel
theorem dX8_addsWord_13 : decode cX8_addsWord 13 = .ok (.iload 5, 2) := by decide +kernel
theorem dX8_addsWord_15 : decode cX8_addsWord 15 = .ok (.aload_n 0, 1) := by decide +kernel
theorem dX8_addsWord_16 : decode cX8_addsWord 16 = .ok (.getfield 7, 3) := by decide +kernel
theorem dX8_addsWord_19 : decode cX8_addsWord 19 = .ok (.iconst 1, 1) := by decide +kernel
theorem dX8_addsWord_20 : decode cX8_addsWord 20 = .ok (.iaload, 1) := by decide +kernel
theorem dX8_addsWord_21 : decode cX8_addsWord 21 = .ok (.if_icmp .ge 37, 3) := by decide +kernel
theorem dX8_addsWord_24 : decode cX8_addsWord 24 = .ok (.iload 4, 2) := by decide +kernel
theorem dX8_addsWord_26 : decode cX8_addsWord 26 = .ok (.ifCond .ne 19, 3) := by decide +kernel
theorem dX8_addsWord_29 : decode cX8_addsWord 29 = .ok (.aload_n 0, 1) := by decide +kernel
theorem dX8_addsWord_30 : decode cX8_addsWord 30 = .ok (.iload 5, 2) := by decide +kernel
theorem dX8_addsWord_32 : decode cX8_addsWord 32 = .ok (.invokestatic 100, 3) := by decide +kernel
theorem dX8_addsWord_35 : decode cX8_addsWord 35 = .ok (.iconst 1, 1) := by decide +kernel
theorem dX8_addsWord_36 : decode cX8_addsWord 36 = .ok (.iadd, 1) := by decide +kernel
theorem dX8_addsWord_37 : decode cX8_addsWord 37 = .ok (.iload_n 1, 1) := by decide +kernel
theorem dX8_addsWord_38 : decode cX8_addsWord 38 = .ok (.iload_n 2, 1) := by decide +kernel
theorem dX8_addsWord_39 : decode cX8_addsWord 39 = .ok (.invokevirtual 183, 3) := by decide +kernel
theorem dX8_addsWord_42 : decode cX8_addsWord 42 = .ok (.ifCond .eq 7, 3) := by decide +kernel
theorem dX8_addsWord_45 : decode cX8_addsWord 45 = .ok (.iconst 1, 1) := by decide +kernel
theorem dX8_addsWord_46 : decode cX8_addsWord 46 = .ok (.goto 4, 3) := by decide +kernel
theorem dX8_addsWord_49 : decode cX8_addsWord 49 = .ok (.iconst 0, 1) := by decide +kernel
theorem dX8_addsWord_50 : decode cX8_addsWord 50 = .ok (.istore 4, 2) := by decide +kernel
theorem dX8_addsWord_52 : decode cX8_addsWord 52 = .ok (.iinc 5 1, 3) := by decide +kernel
theorem dX8_addsWord_55 : decode cX8_addsWord 55 = .ok (.goto (-42), 3) := by decide +kernel
theorem dX8_addsWord_58 : decode cX8_addsWord 58 = .ok (.aload_n 0, 1) := by decide +kernel
theorem dX8_addsWord_59 : decode cX8_addsWord 59 = .ok (.aload_n 0, 1) := by decide +kernel
theorem dX8_addsWord_60 : decode cX8_addsWord 60 = .ok (.getfield 186, 3) := by decide +kernel
theorem dX8_addsWord_63 : decode cX8_addsWord 63 = .ok (.ifCond .ne 8, 3) := by decide +kernel
theorem dX8_addsWord_66 : decode cX8_addsWord 66 = .ok (.iload 4, 2) := by decide +kernel
theorem dX8_addsWord_68 : decode cX8_addsWord 68 = .ok (.ifCond .eq 7, 3) := by decide +kernel
theorem dX8_addsWord_71 : decode cX8_addsWord 71 = .ok (.iconst 1, 1) := by decide +kernel
theorem dX8_addsWord_72 : decode cX8_addsWord 72 = .ok (.goto 4, 3) := by decide +kernel
theorem dX8_addsWord_75 : decode cX8_addsWord 75 = .ok (.iconst 0, 1) := by decide +kernel
theorem dX8_addsWord_76 : decode cX8_addsWord 76 = .ok (.putfield 186, 3) := by decide +kernel
theorem dX8_addsWord_79 : decode cX8_addsWord 79 = .ok (.aload_n 0, 1) := by decide +kernel
theorem dX8_addsWord_80 : decode cX8_addsWord 80 = .ok (.getfield 7, 3) := by decide +kernel
theorem dX8_addsWord_83 : decode cX8_addsWord 83 = .ok (.iconst 1, 1) := by decide +kernel
theorem dX8_addsWord_84 : decode cX8_addsWord 84 = .ok (.iaload, 1) := by decide +kernel
theorem dX8_addsWord_85 : decode cX8_addsWord 85 = .ok (.bipush 20, 2) := by decide +kernel
theorem dX8_addsWord_87 : decode cX8_addsWord 87 = .ok (.if_icmp .ne 12, 3) := by decide +kernel
theorem dX8_addsWord_90 : decode cX8_addsWord 90 = .ok (.aload_n 0, 1) := by decide +kernel
theorem dX8_addsWord_91 : decode cX8_addsWord 91 = .ok (.iload_n 1, 1) := by decide +kernel
theorem dX8_addsWord_92 : decode cX8_addsWord 92 = .ok (.iload_n 2, 1) := by decide +kernel
theorem dX8_addsWord_93 : decode cX8_addsWord 93 = .ok (.bipush (-5), 2) := by decide +kernel
theorem dX8_addsWord_95 : decode cX8_addsWord 95 = .ok (.invokevirtual 189, 3) := by decide +kernel
theorem dX8_addsWord_98 : decode cX8_addsWord 98 = .ok (.return_, 1) := by decide +kernel
theorem dX8_addsWord_99 : decode cX8_addsWord 99 = .ok (.aload_n 0, 1) := by decide +kernel
theorem dX8_addsWord_100 : decode cX8_addsWord 100 = .ok (.getfield 7, 3) := by decide +kernel
theorem dX8_addsWord_103 : decode cX8_addsWord 103 = .ok (.iconst 1, 1) := by decide +kernel
theorem dX8_addsWord_104 : decode cX8_addsWord 104 = .ok (.iaload, 1) := by decide +kernel
theorem dX8_addsWord_105 : decode cX8_addsWord 105 = .ok (.invokestatic 100, 3) := by decide +kernel
theorem dX8_addsWord_108 : decode cX8_addsWord 108 = .ok (.istore 5, 2) := by decide +kernel
theorem dX8_addsWord_110 : decode cX8_addsWord 110 = .ok (.aload_n 0, 1) := by decide +kernel
theorem dX8_addsWord_111 : decode cX8_addsWord 111 = .ok (.getfield 7, 3) := by decide +kernel
theorem dX8_addsWord_114 : decode cX8_addsWord 114 = .ok (.iload 5, 2) := by decide +kernel
theorem dX8_addsWord_116 : decode cX8_addsWord 116 = .ok (.iload_n 3, 1) := by decide +kernel
theorem dX8_addsWord_117 : decode cX8_addsWord 117 = .ok (.iastore, 1) := by decide +kernel
theorem dX8_addsWord_118 : decode cX8_addsWord 118 = .ok (.aload_n 0, 1) := by decide +kernel
theorem dX8_addsWord_119 : decode cX8_addsWord 119 = .ok (.getfield 7, 3) := by decide +kernel
theorem dX8_addsWord_122 : decode cX8_addsWord 122 = .ok (.iload 5, 2) := by decide +kernel
theorem dX8_addsWord_124 : decode cX8_addsWord 124 = .ok (.iconst 1, 1) := by decide +kernel
theorem dX8_addsWord_125 : decode cX8_addsWord 125 = .ok (.iadd, 1) := by decide +kernel
theorem dX8_addsWord_126 : decode cX8_addsWord 126 = .ok (.iload_n 2, 1) := by decide +kernel
theorem dX8_addsWord_127 : decode cX8_addsWord 127 = .ok (.iastore, 1) := by decide +kernel
theorem dX8_addsWord_128 : decode cX8_addsWord 128 = .ok (.iconst 0, 1) := by decide +kernel
theorem dX8_addsWord_129 : decode cX8_addsWord 129 = .ok (.istore 6, 2) := by decide +kernel
theorem dX8_addsWord_131 : decode cX8_addsWord 131 = .ok (.iload 6, 2) := by decide +kernel
theorem dX8_addsWord_133 : decode cX8_addsWord 133 = .ok (.iload_n 2, 1) := by decide +kernel
theorem dX8_addsWord_134 : decode cX8_addsWord 134 = .ok (.if_icmp .ge 30, 3) := by decide +kernel
theorem dX8_addsWord_137 : decode cX8_addsWord 137 = .ok (.aload_n 0, 1) := by decide +kernel
theorem dX8_addsWord_138 : decode cX8_addsWord 138 = .ok (.getfield 7, 3) := by decide +kernel
theorem dX8_addsWord_141 : decode cX8_addsWord 141 = .ok (.iload 5, 2) := by decide +kernel
theorem dX8_addsWord_143 : decode cX8_addsWord 143 = .ok (.iconst 2, 1) := by decide +kernel
theorem dX8_addsWord_144 : decode cX8_addsWord 144 = .ok (.iadd, 1) := by decide +kernel
theorem dX8_addsWord_145 : decode cX8_addsWord 145 = .ok (.iload 6, 2) := by decide +kernel
theorem dX8_addsWord_147 : decode cX8_addsWord 147 = .ok (.iadd, 1) := by decide +kernel
theorem dX8_addsWord_148 : decode cX8_addsWord 148 = .ok (.aload_n 0, 1) := by decide +kernel
theorem dX8_addsWord_149 : decode cX8_addsWord 149 = .ok (.getfield 43, 3) := by decide +kernel
theorem dX8_addsWord_152 : decode cX8_addsWord 152 = .ok (.iload_n 1, 1) := by decide +kernel
theorem dX8_addsWord_153 : decode cX8_addsWord 153 = .ok (.iload 6, 2) := by decide +kernel
theorem dX8_addsWord_155 : decode cX8_addsWord 155 = .ok (.iadd, 1) := by decide +kernel
theorem dX8_addsWord_156 : decode cX8_addsWord 156 = .ok (.iaload, 1) := by decide +kernel
theorem dX8_addsWord_157 : decode cX8_addsWord 157 = .ok (.iastore, 1) := by decide +kernel
theorem dX8_addsWord_158 : decode cX8_addsWord 158 = .ok (.iinc 6 1, 3) := by decide +kernel
theorem dX8_addsWord_161 : decode cX8_addsWord 161 = .ok (.goto (-30), 3) := by decide +kernel
theorem dX8_addsWord_164 : decode cX8_addsWord 164 = .ok (.aload_n 0, 1) := by decide +kernel
theorem dX8_addsWord_165 : decode cX8_addsWord 165 = .ok (.getfield 7, 3) := by decide +kernel
theorem dX8_addsWord_168 : decode cX8_addsWord 168 = .ok (.iconst 1, 1) := by decide +kernel
theorem dX8_addsWord_169 : decode cX8_addsWord 169 = .ok (.dup2, 1) := by decide +kernel
theorem dX8_addsWord_170 : decode cX8_addsWord 170 = .ok (.iaload, 1) := by decide +kernel
theorem dX8_addsWord_171 : decode cX8_addsWord 171 = .ok (.iconst 1, 1) := by decide +kernel
theorem dX8_addsWord_172 : decode cX8_addsWord 172 = .ok (.iadd, 1) := by decide +kernel
theorem dX8_addsWord_173 : decode cX8_addsWord 173 = .ok (.iastore, 1) := by decide +kernel
theorem dX8_addsWord_174 : decode cX8_addsWord 174 = .ok (.return_, 1) := by decide +kernel
set_option maxRecDepth 20000 in
theorem ggX8_readEntries_X8_faultOfEntries : GoodIn wsX8_readEntries wsX8_faultOfEntries := goodIn_r _ [9, 1, 10, 11, 12, 13, 8, 14, 15, 16, 17, 18, 19, 20, 21, 22, 23, 24, 25, 26, 27, 28, 29, 30, 31, 32, 33, 34, 35, 2, 36, 37, 38, 39, 4, 40, 41, 42, 43, 44, 45, 46, 47, 48, 49, 50, 51, 3, 52, 53, 54, 55, 56, 57, 58, 59, 60, 61, 62, 63, 64, 65, 84, 85, 86, 87, 88, 89, 90, 91, 92, 93, 94, 95, 96, 97, 98, 99, 100, 101, 102, 103, 104, 105, 106, 107, 108, 109, 110, 111] (by decide +kernel) (by decide +kernel)
set_option maxRecDepth 20000 in
theorem gX8_readEntries_X8_faultOfEntries : GoodIn wsX8_readEntries (wsV RX8 192 RX8 yX8_faultOfEntries wsX8_faultOfEntries) := goodIn_app (goodIn_of _ (by decide +kernel)) ggX8_readEntries_X8_faultOfEntries
set_option maxRecDepth 20000 in
theorem ggX8_readEntries_X8_remember : GoodIn wsX8_readEntries wsX8_remember := goodIn_r _ [69, 35, 70, 71, 72, 8, 73, 84, 85, 86, 87, 88, 89, 90, 91, 92, 93, 94, 95, 96, 97, 98, 99, 100, 101, 102, 103, 104, 105, 106, 107, 108, 109, 110, 111] (by decide +kernel) (by decide +kernel)
set_option maxRecDepth 20000 in
theorem gX8_readEntries_X8_remember : GoodIn wsX8_readEntries (wsV RX8 196 RX8 yX8_remember wsX8_remember) := goodIn_app (goodIn_of _ (by decide +kernel)) ggX8_readEntries_X8_remember
set_option maxRecDepth 20000 in
theorem ggX8_readEntries_X8_readsEntry : GoodIn wsX8_readEntries wsX8_readsEntry := goodIn_r _ [14, 1, 15, 10, 16, 17, 18, 8, 19, 20, 21, 22, 23, 24, 25, 26, 27, 28, 29, 30, 31, 32, 33, 34, 35, 2, 36, 37, 38, 39, 4, 40, 41, 42, 43, 44, 45, 46, 47, 48, 49, 50, 51, 3, 52, 53, 54, 55, 56, 57, 58, 59, 60, 61, 62, 63, 64, 65, 84, 85, 86, 87, 88, 89, 90, 91, 92, 93, 94, 95, 96, 97, 98, 99, 100, 101, 102, 103, 104, 105, 106, 107, 108, 109, 110, 111] (by decide +kernel) (by decide +kernel)
set_option maxRecDepth 20000 in
theorem gX8_readEntries_X8_readsEntry : GoodIn wsX8_readEntries (wsV RX8 168 RX8 yX8_readsEntry wsX8_readsEntry) := goodIn_app (goodIn_of _ (by decide +kernel)) ggX8_readEntries_X8_readsEntry
set_option maxRecDepth 20000 in
theorem ggX8_readEntries_X8_takes : GoodIn wsX8_readEntries wsX8_takes := goodIn_r _ [19, 1, 20, 21, 22, 8, 23, 10, 15, 24, 25, 26, 84, 85, 86, 87, 88, 89, 90, 91, 92, 93, 94, 95, 96, 97, 98, 99, 100, 101, 102, 103, 104, 105, 106, 107, 108, 109, 110, 111] (by decide +kernel) (by decide +kernel)
set_option maxRecDepth 20000 in
theorem gX8_readEntries_X8_takes : GoodIn wsX8_readEntries (wsV RX8 148 RX8 yX8_takes wsX8_takes) := goodIn_app (goodIn_of _ (by decide +kernel)) ggX8_readEntries_X8_takes
set_option maxRecDepth 20000 in
theorem ggX8_readEntries_X8_refused : GoodIn wsX8_readEntries wsX8_refused := goodIn_r _ [77, 70, 35, 71, 72, 8, 73, 84, 85, 86, 87, 88, 89, 90, 91, 92, 93, 94, 95, 96, 97, 98, 99, 100, 101, 102, 103, 104, 105, 106, 107, 108, 109, 110, 111] (by decide +kernel) (by decide +kernel)
set_option maxRecDepth 20000 in
theorem gX8_readEntries_X8_refused : GoodIn wsX8_readEntries (wsV RX8 199 RX8 yX8_refused wsX8_refused) := goodIn_app (goodIn_of _ (by decide +kernel)) ggX8_readEntries_X8_refused
set_option maxRecDepth 20000 in
theorem ggX8_readEntries_X8_acted : GoodIn wsX8_readEntries wsX8_acted := goodIn_r _ [81, 82, 83, 70, 84, 85, 86, 87, 88, 89, 90, 91, 92, 93, 94, 95, 96, 97, 98, 99, 100, 101, 102, 103, 104, 105, 106, 107, 108, 109, 110, 111] (by decide +kernel) (by decide +kernel)
set_option maxRecDepth 20000 in
theorem gX8_readEntries_X8_acted : GoodIn wsX8_readEntries (wsV RX8 202 RX8 yX8_acted wsX8_acted) := goodIn_app (goodIn_of _ (by decide +kernel)) ggX8_readEntries_X8_acted
theorem dX8_readEntries_0 : decode cX8_readEntries 0 = .ok (.aload_n 0, 1) := by decide +kernel
theorem dX8_readEntries_1 : decode cX8_readEntries 1 = .ok (.invokevirtual 192, 3) := by decide +kernel
theorem dX8_readEntries_4 : decode cX8_readEntries 4 = .ok (.istore_n 1, 1) := by decide +kernel
theorem dX8_readEntries_5 : decode cX8_readEntries 5 = .ok (.iload_n 1, 1) := by decide +kernel
theorem dX8_readEntries_6 : decode cX8_readEntries 6 = .ok (.bipush (-5), 2) := by decide +kernel
theorem dX8_readEntries_8 : decode cX8_readEntries 8 = .ok (.if_icmp .eq 8, 3) := by decide +kernel
theorem dX8_readEntries_11 : decode cX8_readEntries 11 = .ok (.bipush (-100), 2) := by decide +kernel
theorem dX8_readEntries_13 : decode cX8_readEntries 13 = .ok (.iload_n 1, 1) := by decide +kernel
theorem dX8_readEntries_14 : decode cX8_readEntries 14 = .ok (.isub, 1) := by decide +kernel
theorem dX8_readEntries_15 : decode cX8_readEntries 15 = .ok (.ireturn, 1) := by decide +kernel
theorem dX8_readEntries_16 : decode cX8_readEntries 16 = .ok (.aload_n 0, 1) := by decide +kernel
theorem dX8_readEntries_17 : decode cX8_readEntries 17 = .ok (.invokevirtual 196, 3) := by decide +kernel
theorem dX8_readEntries_20 : decode cX8_readEntries 20 = .ok (.aload_n 0, 1) := by decide +kernel
theorem dX8_readEntries_21 : decode cX8_readEntries 21 = .ok (.iconst 0, 1) := by decide +kernel
theorem dX8_readEntries_22 : decode cX8_readEntries 22 = .ok (.putfield 142, 3) := by decide +kernel
theorem dX8_readEntries_25 : decode cX8_readEntries 25 = .ok (.aload_n 0, 1) := by decide +kernel
theorem dX8_readEntries_26 : decode cX8_readEntries 26 = .ok (.iconst 0, 1) := by decide +kernel
theorem dX8_readEntries_27 : decode cX8_readEntries 27 = .ok (.putfield 186, 3) := by decide +kernel
theorem dX8_readEntries_30 : decode cX8_readEntries 30 = .ok (.aload_n 0, 1) := by decide +kernel
theorem dX8_readEntries_31 : decode cX8_readEntries 31 = .ok (.iconst 0, 1) := by decide +kernel
theorem dX8_readEntries_32 : decode cX8_readEntries 32 = .ok (.putfield 175, 3) := by decide +kernel
theorem dX8_readEntries_35 : decode cX8_readEntries 35 = .ok (.aload_n 0, 1) := by decide +kernel
theorem dX8_readEntries_36 : decode cX8_readEntries 36 = .ok (.iconst 0, 1) := by decide +kernel
theorem dX8_readEntries_37 : decode cX8_readEntries 37 = .ok (.putfield 172, 3) := by decide +kernel
theorem dX8_readEntries_40 : decode cX8_readEntries 40 = .ok (.iconst 0, 1) := by decide +kernel
theorem dX8_readEntries_41 : decode cX8_readEntries 41 = .ok (.istore_n 2, 1) := by decide +kernel
theorem dX8_readEntries_42 : decode cX8_readEntries 42 = .ok (.iconst 1, 1) := by decide +kernel
theorem dX8_readEntries_43 : decode cX8_readEntries 43 = .ok (.istore_n 3, 1) := by decide +kernel
theorem dX8_readEntries_44 : decode cX8_readEntries 44 = .ok (.iload_n 3, 1) := by decide +kernel
theorem dX8_readEntries_45 : decode cX8_readEntries 45 = .ok (.ifCond .eq 24, 3) := by decide +kernel
theorem dX8_readEntries_48 : decode cX8_readEntries 48 = .ok (.aload_n 0, 1) := by decide +kernel
theorem dX8_readEntries_49 : decode cX8_readEntries 49 = .ok (.iconst 1, 1) := by decide +kernel
theorem dX8_readEntries_50 : decode cX8_readEntries 50 = .ok (.invokevirtual 168, 3) := by decide +kernel
theorem dX8_readEntries_53 : decode cX8_readEntries 53 = .ok (.ifCond .eq 16, 3) := by decide +kernel
theorem dX8_readEntries_56 : decode cX8_readEntries 56 = .ok (.iinc 2 1, 3) := by decide +kernel
theorem dX8_readEntries_59 : decode cX8_readEntries 59 = .ok (.aload_n 0, 1) := by decide +kernel
theorem dX8_readEntries_60 : decode cX8_readEntries 60 = .ok (.bipush 44, 2) := by decide +kernel
theorem dX8_readEntries_62 : decode cX8_readEntries 62 = .ok (.invokevirtual 148, 3) := by decide +kernel
theorem dX8_readEntries_65 : decode cX8_readEntries 65 = .ok (.istore_n 3, 1) := by decide +kernel
theorem dX8_readEntries_66 : decode cX8_readEntries 66 = .ok (.goto (-22), 3) := by decide +kernel
theorem dX8_readEntries_69 : decode cX8_readEntries 69 = .ok (.aload_n 0, 1) := by decide +kernel
theorem dX8_readEntries_70 : decode cX8_readEntries 70 = .ok (.getfield 186, 3) := by decide +kernel
theorem dX8_readEntries_73 : decode cX8_readEntries 73 = .ok (.ifCond .eq 12, 3) := by decide +kernel
theorem dX8_readEntries_76 : decode cX8_readEntries 76 = .ok (.aload_n 0, 1) := by decide +kernel
theorem dX8_readEntries_77 : decode cX8_readEntries 77 = .ok (.bipush (-4), 2) := by decide +kernel
theorem dX8_readEntries_79 : decode cX8_readEntries 79 = .ok (.invokevirtual 199, 3) := by decide +kernel
theorem dX8_readEntries_82 : decode cX8_readEntries 82 = .ok (.goto 24, 3) := by decide +kernel
theorem dX8_readEntries_85 : decode cX8_readEntries 85 = .ok (.aload_n 0, 1) := by decide +kernel
theorem dX8_readEntries_86 : decode cX8_readEntries 86 = .ok (.getfield 175, 3) := by decide +kernel
theorem dX8_readEntries_89 : decode cX8_readEntries 89 = .ok (.ifCond .eq 12, 3) := by decide +kernel
theorem dX8_readEntries_92 : decode cX8_readEntries 92 = .ok (.aload_n 0, 1) := by decide +kernel
theorem dX8_readEntries_93 : decode cX8_readEntries 93 = .ok (.bipush (-3), 2) := by decide +kernel
theorem dX8_readEntries_95 : decode cX8_readEntries 95 = .ok (.invokevirtual 199, 3) := by decide +kernel
theorem dX8_readEntries_98 : decode cX8_readEntries 98 = .ok (.goto 8, 3) := by decide +kernel
theorem dX8_readEntries_101 : decode cX8_readEntries 101 = .ok (.aload_n 0, 1) := by decide +kernel
theorem dX8_readEntries_102 : decode cX8_readEntries 102 = .ok (.iload_n 2, 1) := by decide +kernel
theorem dX8_readEntries_103 : decode cX8_readEntries 103 = .ok (.invokevirtual 202, 3) := by decide +kernel
theorem dX8_readEntries_106 : decode cX8_readEntries 106 = .ok (.ireturn, 1) := by decide +kernel
theorem dX8_takesOut_0 : decode cX8_takesOut 0 = .ok (.aload_n 0, 1) := by decide +kernel
theorem dX8_takesOut_1 : decode cX8_takesOut 1 = .ok (.getfield 7, 3) := by decide +kernel
theorem dX8_takesOut_4 : decode cX8_takesOut 4 = .ok (.iload_n 1, 1) := by decide +kernel
theorem dX8_takesOut_5 : decode cX8_takesOut 5 = .ok (.dup2, 1) := by decide +kernel
theorem dX8_takesOut_6 : decode cX8_takesOut 6 = .ok (.iaload, 1) := by decide +kernel
theorem dX8_takesOut_7 : decode cX8_takesOut 7 = .ok (.iconst 1, 1) := by decide +kernel
theorem dX8_takesOut_8 : decode cX8_takesOut 8 = .ok (.isub, 1) := by decide +kernel
theorem dX8_takesOut_9 : decode cX8_takesOut 9 = .ok (.iastore, 1) := by decide +kernel
theorem dX8_takesOut_10 : decode cX8_takesOut 10 = .ok (.iload_n 3, 1) := by decide +kernel
theorem dX8_takesOut_11 : decode cX8_takesOut 11 = .ok (.iload 4, 2) := by decide +kernel
theorem dX8_takesOut_13 : decode cX8_takesOut 13 = .ok (.imul, 1) := by decide +kernel
theorem dX8_takesOut_14 : decode cX8_takesOut 14 = .ok (.istore 5, 2) := by decide +kernel
theorem dX8_takesOut_16 : decode cX8_takesOut 16 = .ok (.iload 5, 2) := by decide +kernel
theorem dX8_takesOut_18 : decode cX8_takesOut 18 = .ok (.iload_n 3, 1) := by decide +kernel
theorem dX8_takesOut_19 : decode cX8_takesOut 19 = .ok (.aload_n 0, 1) := by decide +kernel
theorem dX8_takesOut_20 : decode cX8_takesOut 20 = .ok (.getfield 7, 3) := by decide +kernel
theorem dX8_takesOut_23 : decode cX8_takesOut 23 = .ok (.iload_n 1, 1) := by decide +kernel
theorem dX8_takesOut_24 : decode cX8_takesOut 24 = .ok (.iaload, 1) := by decide +kernel
theorem dX8_takesOut_25 : decode cX8_takesOut 25 = .ok (.imul, 1) := by decide +kernel
theorem dX8_takesOut_26 : decode cX8_takesOut 26 = .ok (.if_icmp .ge 29, 3) := by decide +kernel
theorem dX8_takesOut_29 : decode cX8_takesOut 29 = .ok (.aload_n 0, 1) := by decide +kernel
theorem dX8_takesOut_30 : decode cX8_takesOut 30 = .ok (.getfield 7, 3) := by decide +kernel
theorem dX8_takesOut_33 : decode cX8_takesOut 33 = .ok (.iload_n 2, 1) := by decide +kernel
theorem dX8_takesOut_34 : decode cX8_takesOut 34 = .ok (.iload 5, 2) := by decide +kernel
theorem dX8_takesOut_36 : decode cX8_takesOut 36 = .ok (.iadd, 1) := by decide +kernel
theorem dX8_takesOut_37 : decode cX8_takesOut 37 = .ok (.aload_n 0, 1) := by decide +kernel
theorem dX8_takesOut_38 : decode cX8_takesOut 38 = .ok (.getfield 7, 3) := by decide +kernel
theorem dX8_takesOut_41 : decode cX8_takesOut 41 = .ok (.iload_n 2, 1) := by decide +kernel
theorem dX8_takesOut_42 : decode cX8_takesOut 42 = .ok (.iload 5, 2) := by decide +kernel
theorem dX8_takesOut_44 : decode cX8_takesOut 44 = .ok (.iadd, 1) := by decide +kernel
theorem dX8_takesOut_45 : decode cX8_takesOut 45 = .ok (.iload_n 3, 1) := by decide +kernel
theorem dX8_takesOut_46 : decode cX8_takesOut 46 = .ok (.iadd, 1) := by decide +kernel
theorem dX8_takesOut_47 : decode cX8_takesOut 47 = .ok (.iaload, 1) := by decide +kernel
theorem dX8_takesOut_48 : decode cX8_takesOut 48 = .ok (.iastore, 1) := by decide +kernel
theorem dX8_takesOut_49 : decode cX8_takesOut 49 = .ok (.iinc 5 1, 3) := by decide +kernel
theorem dX8_takesOut_52 : decode cX8_takesOut 52 = .ok (.goto (-36), 3) := by decide +kernel
theorem dX8_takesOut_55 : decode cX8_takesOut 55 = .ok (.return_, 1) := by decide +kernel
set_option maxRecDepth 20000 in
theorem ggX8_removeRule_X8_isRule : GoodIn wsX8_removeRule wsX8_isRule := goodIn_r _ [6, 1, 7, 8, 5, 9, 28, 29, 30, 31, 32, 33, 34, 35, 36, 37, 38, 39, 40, 41, 42, 43, 44, 45, 46, 47, 48, 49, 50, 51, 52, 53, 54, 55] (by decide +kernel) (by decide +kernel)
set_option maxRecDepth 20000 in
theorem gX8_removeRule_X8_isRule : GoodIn wsX8_removeRule (wsV RX8 205 RX8 yX8_isRule wsX8_isRule) := goodIn_app (goodIn_of _ (by decide +kernel)) ggX8_removeRule_X8_isRule
set_option maxRecDepth 20000 in
theorem ggX8_removeRule_X8_remember : GoodIn wsX8_removeRule wsX8_remember := goodIn_r _ [13, 1, 14, 15, 16, 5, 17, 28, 29, 30, 31, 32, 33, 34, 35, 36, 37, 38, 39, 40, 41, 42, 43, 44, 45, 46, 47, 48, 49, 50, 51, 52, 53, 54, 55] (by decide +kernel) (by decide +kernel)
set_option maxRecDepth 20000 in
theorem gX8_removeRule_X8_remember : GoodIn wsX8_removeRule (wsV RX8 196 RX8 yX8_remember wsX8_remember) := goodIn_app (goodIn_of _ (by decide +kernel)) ggX8_removeRule_X8_remember
set_option maxRecDepth 20000 in
theorem ggX8_removeRule_X8_takesOut : GoodIn wsX8_removeRule wsX8_takesOut := goodIn_r _ [21, 1, 28, 29, 30, 31, 32, 33, 34, 35, 36, 37, 38, 39, 40, 41, 42, 43, 44, 45, 46, 47, 48, 49, 50, 51, 52, 53, 54, 55] (by decide +kernel) (by decide +kernel)
set_option maxRecDepth 20000 in
theorem gX8_removeRule_X8_takesOut : GoodIn wsX8_removeRule (wsV RX8 208 RX8 yX8_takesOut wsX8_takesOut) := goodIn_app (goodIn_of _ (by decide +kernel)) ggX8_removeRule_X8_takesOut
set_option maxRecDepth 20000 in
theorem ggX8_removeRule_X8_acted : GoodIn wsX8_removeRule wsX8_acted := goodIn_r _ [25, 26, 27, 14, 28, 29, 30, 31, 32, 33, 34, 35, 36, 37, 38, 39, 40, 41, 42, 43, 44, 45, 46, 47, 48, 49, 50, 51, 52, 53, 54, 55] (by decide +kernel) (by decide +kernel)
set_option maxRecDepth 20000 in
theorem gX8_removeRule_X8_acted : GoodIn wsX8_removeRule (wsV RX8 202 RX8 yX8_acted wsX8_acted) := goodIn_app (goodIn_of _ (by decide +kernel)) ggX8_removeRule_X8_acted
theorem dX8_removeRule_0 : decode cX8_removeRule 0 = .ok (.aload_n 0, 1) := by decide +kernel
theorem dX8_removeRule_1 : decode cX8_removeRule 1 = .ok (.iload_n 1, 1) := by decide +kernel
theorem dX8_removeRule_2 : decode cX8_removeRule 2 = .ok (.invokevirtual 205, 3) := by decide +kernel
theorem dX8_removeRule_5 : decode cX8_removeRule 5 = .ok (.ifCond .ne 5, 3) := by decide +kernel
theorem dX8_removeRule_8 : decode cX8_removeRule 8 = .ok (.iconst (-1), 1) := by decide +kernel
theorem dX8_removeRule_9 : decode cX8_removeRule 9 = .ok (.ireturn, 1) := by decide +kernel
theorem dX8_removeRule_10 : decode cX8_removeRule 10 = .ok (.aload_n 0, 1) := by decide +kernel
theorem dX8_removeRule_11 : decode cX8_removeRule 11 = .ok (.invokevirtual 196, 3) := by decide +kernel
theorem dX8_removeRule_14 : decode cX8_removeRule 14 = .ok (.aload_n 0, 1) := by decide +kernel
theorem dX8_removeRule_15 : decode cX8_removeRule 15 = .ok (.iconst 0, 1) := by decide +kernel
theorem dX8_removeRule_16 : decode cX8_removeRule 16 = .ok (.iconst 2, 1) := by decide +kernel
theorem dX8_removeRule_17 : decode cX8_removeRule 17 = .ok (.bipush 7, 2) := by decide +kernel
theorem dX8_removeRule_19 : decode cX8_removeRule 19 = .ok (.iload_n 1, 1) := by decide +kernel
theorem dX8_removeRule_20 : decode cX8_removeRule 20 = .ok (.invokevirtual 208, 3) := by decide +kernel
theorem dX8_removeRule_23 : decode cX8_removeRule 23 = .ok (.aload_n 0, 1) := by decide +kernel
theorem dX8_removeRule_24 : decode cX8_removeRule 24 = .ok (.aload_n 0, 1) := by decide +kernel
theorem dX8_removeRule_25 : decode cX8_removeRule 25 = .ok (.getfield 7, 3) := by decide +kernel
theorem dX8_removeRule_28 : decode cX8_removeRule 28 = .ok (.iconst 0, 1) := by decide +kernel
theorem dX8_removeRule_29 : decode cX8_removeRule 29 = .ok (.iaload, 1) := by decide +kernel
theorem dX8_removeRule_30 : decode cX8_removeRule 30 = .ok (.invokevirtual 202, 3) := by decide +kernel
theorem dX8_removeRule_33 : decode cX8_removeRule 33 = .ok (.ireturn, 1) := by decide +kernel
set_option maxRecDepth 20000 in
theorem ggX8_changedSpellings_X8_spells : GoodIn wsX8_changedSpellings wsX8_spells := goodIn_r _ [10, 1, 3, 11, 5, 12, 13, 14, 15, 9, 16, 17, 18, 19, 20, 21, 22, 23, 24, 25, 26, 27, 28, 29, 30, 31, 32, 33, 34, 35, 36, 37, 38, 39, 40, 41, 42, 43, 44, 45, 46, 47, 48, 49, 50, 51, 52, 53, 54, 55, 56, 57, 58, 59, 60, 61, 62, 63, 64, 65, 66, 67, 68, 69, 70, 71, 72, 73, 74, 75, 76, 77, 78, 79, 80, 81, 82, 83, 84, 85, 86, 87, 88, 89, 90, 91, 92, 93, 94, 95, 96, 97] (by decide +kernel) (by decide +kernel)
set_option maxRecDepth 20000 in
theorem gX8_changedSpellings_X8_spells : GoodIn wsX8_changedSpellings (wsV RX8 132 RX8 yX8_spells wsX8_spells) := goodIn_app (goodIn_of _ (by decide +kernel)) ggX8_changedSpellings_X8_spells
theorem dX8_changedSpellings_0 : decode cX8_changedSpellings 0 = .ok (.iconst 0, 1) := by decide +kernel
theorem dX8_changedSpellings_1 : decode cX8_changedSpellings 1 = .ok (.istore_n 1, 1) := by decide +kernel
theorem dX8_changedSpellings_2 : decode cX8_changedSpellings 2 = .ok (.aload_n 0, 1) := by decide +kernel
theorem dX8_changedSpellings_3 : decode cX8_changedSpellings 3 = .ok (.invokevirtual 132, 3) := by decide +kernel
theorem dX8_changedSpellings_6 : decode cX8_changedSpellings 6 = .ok (.iconst 0, 1) := by decide +kernel
theorem dX8_changedSpellings_7 : decode cX8_changedSpellings 7 = .ok (.istore_n 2, 1) := by decide +kernel
theorem dX8_changedSpellings_8 : decode cX8_changedSpellings 8 = .ok (.iload_n 2, 1) := by decide +kernel
theorem dX8_changedSpellings_9 : decode cX8_changedSpellings 9 = .ok (.aload_n 0, 1) := by decide +kernel
theorem dX8_changedSpellings_10 : decode cX8_changedSpellings 10 = .ok (.getfield 7, 3) := by decide +kernel
theorem dX8_changedSpellings_13 : decode cX8_changedSpellings 13 = .ok (.iconst 1, 1) := by decide +kernel
theorem dX8_changedSpellings_14 : decode cX8_changedSpellings 14 = .ok (.iaload, 1) := by decide +kernel
theorem dX8_changedSpellings_15 : decode cX8_changedSpellings 15 = .ok (.if_icmp .ge 99, 3) := by decide +kernel
theorem dX8_changedSpellings_18 : decode cX8_changedSpellings 18 = .ok (.aload_n 0, 1) := by decide +kernel
theorem dX8_changedSpellings_19 : decode cX8_changedSpellings 19 = .ok (.getfield 52, 3) := by decide +kernel
theorem dX8_changedSpellings_22 : decode cX8_changedSpellings 22 = .ok (.iload_n 2, 1) := by decide +kernel
theorem dX8_changedSpellings_23 : decode cX8_changedSpellings 23 = .ok (.iaload, 1) := by decide +kernel
theorem dX8_changedSpellings_24 : decode cX8_changedSpellings 24 = .ok (.aload_n 0, 1) := by decide +kernel
theorem dX8_changedSpellings_25 : decode cX8_changedSpellings 25 = .ok (.getfield 40, 3) := by decide +kernel
theorem dX8_changedSpellings_28 : decode cX8_changedSpellings 28 = .ok (.iload_n 2, 1) := by decide +kernel
theorem dX8_changedSpellings_29 : decode cX8_changedSpellings 29 = .ok (.iaload, 1) := by decide +kernel
theorem dX8_changedSpellings_30 : decode cX8_changedSpellings 30 = .ok (.if_icmp .ne 7, 3) := by decide +kernel
theorem dX8_changedSpellings_33 : decode cX8_changedSpellings 33 = .ok (.iconst 1, 1) := by decide +kernel
theorem dX8_changedSpellings_34 : decode cX8_changedSpellings 34 = .ok (.goto 4, 3) := by decide +kernel
theorem dX8_changedSpellings_37 : decode cX8_changedSpellings 37 = .ok (.iconst 0, 1) := by decide +kernel
theorem dX8_changedSpellings_38 : decode cX8_changedSpellings 38 = .ok (.istore_n 3, 1) := by decide +kernel
theorem dX8_changedSpellings_39 : decode cX8_changedSpellings 39 = .ok (.iconst 0, 1) := by decide +kernel
theorem dX8_changedSpellings_40 : decode cX8_changedSpellings 40 = .ok (.istore 4, 2) := by decide +kernel
theorem dX8_changedSpellings_42 : decode cX8_changedSpellings 42 = .ok (.iload 4, 2) := by decide +kernel
theorem dX8_changedSpellings_44 : decode cX8_changedSpellings 44 = .ok (.aload_n 0, 1) := by decide +kernel
theorem dX8_changedSpellings_45 : decode cX8_changedSpellings 45 = .ok (.getfield 52, 3) := by decide +kernel
theorem dX8_changedSpellings_48 : decode cX8_changedSpellings 48 = .ok (.iload_n 2, 1) := by decide +kernel
theorem dX8_changedSpellings_49 : decode cX8_changedSpellings 49 = .ok (.iaload, 1) := by decide +kernel
theorem dX8_changedSpellings_50 : decode cX8_changedSpellings 50 = .ok (.if_icmp .ge 46, 3) := by decide +kernel
theorem dX8_changedSpellings_53 : decode cX8_changedSpellings 53 = .ok (.iload_n 3, 1) := by decide +kernel
theorem dX8_changedSpellings_54 : decode cX8_changedSpellings 54 = .ok (.ifCond .eq 42, 3) := by decide +kernel
theorem dX8_changedSpellings_57 : decode cX8_changedSpellings 57 = .ok (.aload_n 0, 1) := by decide +kernel
theorem dX8_changedSpellings_58 : decode cX8_changedSpellings 58 = .ok (.getfield 49, 3) := by decide +kernel
theorem dX8_changedSpellings_61 : decode cX8_changedSpellings 61 = .ok (.bipush 26, 2) := by decide +kernel
theorem dX8_changedSpellings_63 : decode cX8_changedSpellings 63 = .ok (.iload_n 2, 1) := by decide +kernel
theorem dX8_changedSpellings_64 : decode cX8_changedSpellings 64 = .ok (.imul, 1) := by decide +kernel
theorem dX8_changedSpellings_65 : decode cX8_changedSpellings 65 = .ok (.iload 4, 2) := by decide +kernel
theorem dX8_changedSpellings_67 : decode cX8_changedSpellings 67 = .ok (.iadd, 1) := by decide +kernel
theorem dX8_changedSpellings_68 : decode cX8_changedSpellings 68 = .ok (.iaload, 1) := by decide +kernel
theorem dX8_changedSpellings_69 : decode cX8_changedSpellings 69 = .ok (.aload_n 0, 1) := by decide +kernel
theorem dX8_changedSpellings_70 : decode cX8_changedSpellings 70 = .ok (.getfield 37, 3) := by decide +kernel
theorem dX8_changedSpellings_73 : decode cX8_changedSpellings 73 = .ok (.bipush 26, 2) := by decide +kernel
theorem dX8_changedSpellings_75 : decode cX8_changedSpellings 75 = .ok (.iload_n 2, 1) := by decide +kernel
theorem dX8_changedSpellings_76 : decode cX8_changedSpellings 76 = .ok (.imul, 1) := by decide +kernel
theorem dX8_changedSpellings_77 : decode cX8_changedSpellings 77 = .ok (.iload 4, 2) := by decide +kernel
theorem dX8_changedSpellings_79 : decode cX8_changedSpellings 79 = .ok (.iadd, 1) := by decide +kernel
theorem dX8_changedSpellings_80 : decode cX8_changedSpellings 80 = .ok (.iaload, 1) := by decide +kernel
theorem dX8_changedSpellings_81 : decode cX8_changedSpellings 81 = .ok (.if_icmp .ne 7, 3) := by decide +kernel
theorem dX8_changedSpellings_84 : decode cX8_changedSpellings 84 = .ok (.iconst 1, 1) := by decide +kernel
theorem dX8_changedSpellings_85 : decode cX8_changedSpellings 85 = .ok (.goto 4, 3) := by decide +kernel
theorem dX8_changedSpellings_88 : decode cX8_changedSpellings 88 = .ok (.iconst 0, 1) := by decide +kernel
theorem dX8_changedSpellings_89 : decode cX8_changedSpellings 89 = .ok (.istore_n 3, 1) := by decide +kernel
theorem dX8_changedSpellings_90 : decode cX8_changedSpellings 90 = .ok (.iinc 4 1, 3) := by decide +kernel
theorem dX8_changedSpellings_93 : decode cX8_changedSpellings 93 = .ok (.goto (-51), 3) := by decide +kernel
theorem dX8_changedSpellings_96 : decode cX8_changedSpellings 96 = .ok (.iload_n 1, 1) := by decide +kernel
theorem dX8_changedSpellings_97 : decode cX8_changedSpellings 97 = .ok (.iload_n 3, 1) := by decide +kernel
theorem dX8_changedSpellings_98 : decode cX8_changedSpellings 98 = .ok (.ifCond .eq 7, 3) := by decide +kernel
theorem dX8_changedSpellings_101 : decode cX8_changedSpellings 101 = .ok (.iconst 0, 1) := by decide +kernel
theorem dX8_changedSpellings_102 : decode cX8_changedSpellings 102 = .ok (.goto 4, 3) := by decide +kernel
theorem dX8_changedSpellings_105 : decode cX8_changedSpellings 105 = .ok (.iconst 1, 1) := by decide +kernel
theorem dX8_changedSpellings_106 : decode cX8_changedSpellings 106 = .ok (.iadd, 1) := by decide +kernel
theorem dX8_changedSpellings_107 : decode cX8_changedSpellings 107 = .ok (.istore_n 1, 1) := by decide +kernel
theorem dX8_changedSpellings_108 : decode cX8_changedSpellings 108 = .ok (.iinc 2 1, 3) := by decide +kernel
theorem dX8_changedSpellings_111 : decode cX8_changedSpellings 111 = .ok (.goto (-103), 3) := by decide +kernel
theorem dX8_changedSpellings_114 : decode cX8_changedSpellings 114 = .ok (.iload_n 1, 1) := by decide +kernel
theorem dX8_changedSpellings_115 : decode cX8_changedSpellings 115 = .ok (.ireturn, 1) := by decide +kernel
set_option maxRecDepth 20000 in
theorem ggX8_moveRule_X8_isRule : GoodIn wsX8_moveRule wsX8_isRule := goodIn_r _ [11, 5, 12, 13, 10, 14, 96, 97, 98, 99, 100, 101, 102, 103, 104, 105, 106, 107, 108, 109, 110, 111, 112, 113, 114, 115, 116, 117, 118, 119, 120, 121, 122, 123] (by decide +kernel) (by decide +kernel)
set_option maxRecDepth 20000 in
theorem gX8_moveRule_X8_isRule : GoodIn wsX8_moveRule (wsV RX8 205 RX8 yX8_isRule wsX8_isRule) := goodIn_app (goodIn_of _ (by decide +kernel)) ggX8_moveRule_X8_isRule
set_option maxRecDepth 20000 in
theorem ggX8_moveRule_X8_remember : GoodIn wsX8_moveRule wsX8_remember := goodIn_r _ [18, 5, 6, 19, 20, 10, 21, 96, 97, 98, 99, 100, 101, 102, 103, 104, 105, 106, 107, 108, 109, 110, 111, 112, 113, 114, 115, 116, 117, 118, 119, 120, 121, 122, 123] (by decide +kernel) (by decide +kernel)
set_option maxRecDepth 20000 in
theorem gX8_moveRule_X8_remember : GoodIn wsX8_moveRule (wsV RX8 196 RX8 yX8_remember wsX8_remember) := goodIn_app (goodIn_of _ (by decide +kernel)) ggX8_moveRule_X8_remember
set_option maxRecDepth 20000 in
theorem ggX8_moveRule_X8_spells : GoodIn wsX8_moveRule wsX8_spells := goodIn_r _ [25, 5, 4, 26, 2, 27, 28, 29, 30, 10, 31, 32, 33, 34, 35, 36, 37, 38, 39, 40, 41, 42, 43, 44, 45, 46, 47, 48, 49, 50, 51, 52, 53, 54, 55, 56, 57, 58, 59, 60, 61, 62, 63, 64, 65, 66, 67, 68, 69, 70, 71, 72, 73, 74, 75, 76, 77, 78, 79, 80, 81, 12, 13, 14, 96, 97, 98, 99, 100, 101, 102, 103, 104, 105, 106, 107, 108, 109, 110, 111, 112, 113, 114, 115, 116, 117, 118, 119, 120, 121, 122, 123] (by decide +kernel) (by decide +kernel)
set_option maxRecDepth 20000 in
theorem gX8_moveRule_X8_spells : GoodIn wsX8_moveRule (wsV RX8 132 RX8 yX8_spells wsX8_spells) := goodIn_app (goodIn_of _ (by decide +kernel)) ggX8_moveRule_X8_spells
set_option maxRecDepth 20000 in
theorem ggX8_moveRule_X8_takesOut : GoodIn wsX8_moveRule wsX8_takesOut := goodIn_r _ [85, 5, 96, 97, 98, 99, 100, 101, 102, 103, 104, 105, 106, 107, 108, 109, 110, 111, 112, 113, 114, 115, 116, 117, 118, 119, 120, 121, 122, 123] (by decide +kernel) (by decide +kernel)
set_option maxRecDepth 20000 in
theorem gX8_moveRule_X8_takesOut : GoodIn wsX8_moveRule (wsV RX8 208 RX8 yX8_takesOut wsX8_takesOut) := goodIn_app (goodIn_of _ (by decide +kernel)) ggX8_moveRule_X8_takesOut
set_option maxRecDepth 20000 in
theorem ggX8_moveRule_X8_ruleAt : GoodIn wsX8_moveRule wsX8_ruleAt := goodIn_r _ [70] (by decide +kernel) (by decide +kernel)
set_option maxRecDepth 20000 in
theorem gX8_moveRule_X8_ruleAt : GoodIn wsX8_moveRule (va_wsS RX8 70 yX8_ruleAt wsX8_ruleAt) := goodIn_app (goodIn_of _ (by decide +kernel)) ggX8_moveRule_X8_ruleAt
set_option maxRecDepth 20000 in
theorem ggX8_moveRule_X8_changedSpellings : GoodIn wsX8_moveRule wsX8_changedSpellings := goodIn_r _ [89, 5, 3, 4, 1, 2, 22, 23, 24, 10, 25, 26, 27, 28, 29, 30, 31, 32, 33, 34, 35, 36, 37, 38, 39, 40, 41, 42, 43, 44, 45, 46, 47, 48, 49, 50, 51, 52, 53, 54, 55, 56, 57, 58, 59, 60, 61, 62, 63, 64, 65, 66, 67, 68, 69, 70, 71, 72, 73, 74, 75, 76, 77, 78, 79, 80, 81, 12, 13, 14, 96, 97, 98, 99, 100, 101, 102, 103, 104, 105, 106, 107, 108, 109, 110, 111, 112, 113, 114, 115, 116, 117, 118, 119, 120, 121, 122, 123] (by decide +kernel) (by decide +kernel)
set_option maxRecDepth 20000 in
theorem gX8_moveRule_X8_changedSpellings : GoodIn wsX8_moveRule (wsV RX8 211 RX8 yX8_changedSpellings wsX8_changedSpellings) := goodIn_app (goodIn_of _ (by decide +kernel)) ggX8_moveRule_X8_changedSpellings
set_option maxRecDepth 20000 in
theorem ggX8_moveRule_X8_acted : GoodIn wsX8_moveRule wsX8_acted := goodIn_r _ [93, 94, 95, 6, 96, 97, 98, 99, 100, 101, 102, 103, 104, 105, 106, 107, 108, 109, 110, 111, 112, 113, 114, 115, 116, 117, 118, 119, 120, 121, 122, 123] (by decide +kernel) (by decide +kernel)
set_option maxRecDepth 20000 in
theorem gX8_moveRule_X8_acted : GoodIn wsX8_moveRule (wsV RX8 202 RX8 yX8_acted wsX8_acted) := goodIn_app (goodIn_of _ (by decide +kernel)) ggX8_moveRule_X8_acted
theorem dX8_moveRule_0 : decode cX8_moveRule 0 = .ok (.aload_n 0, 1) := by decide +kernel
theorem dX8_moveRule_1 : decode cX8_moveRule 1 = .ok (.iload_n 1, 1) := by decide +kernel
theorem dX8_moveRule_2 : decode cX8_moveRule 2 = .ok (.invokevirtual 205, 3) := by decide +kernel
theorem dX8_moveRule_5 : decode cX8_moveRule 5 = .ok (.ifCond .ne 5, 3) := by decide +kernel
theorem dX8_moveRule_8 : decode cX8_moveRule 8 = .ok (.iconst (-1), 1) := by decide +kernel
theorem dX8_moveRule_9 : decode cX8_moveRule 9 = .ok (.ireturn, 1) := by decide +kernel
theorem dX8_moveRule_10 : decode cX8_moveRule 10 = .ok (.aload_n 0, 1) := by decide +kernel
theorem dX8_moveRule_11 : decode cX8_moveRule 11 = .ok (.iload_n 2, 1) := by decide +kernel
theorem dX8_moveRule_12 : decode cX8_moveRule 12 = .ok (.invokevirtual 205, 3) := by decide +kernel
theorem dX8_moveRule_15 : decode cX8_moveRule 15 = .ok (.ifCond .ne 6, 3) := by decide +kernel
theorem dX8_moveRule_18 : decode cX8_moveRule 18 = .ok (.bipush (-2), 2) := by decide +kernel
theorem dX8_moveRule_20 : decode cX8_moveRule 20 = .ok (.ireturn, 1) := by decide +kernel
theorem dX8_moveRule_21 : decode cX8_moveRule 21 = .ok (.iload_n 1, 1) := by decide +kernel
theorem dX8_moveRule_22 : decode cX8_moveRule 22 = .ok (.iload_n 2, 1) := by decide +kernel
theorem dX8_moveRule_23 : decode cX8_moveRule 23 = .ok (.if_icmp .ne 6, 3) := by decide +kernel
theorem dX8_moveRule_26 : decode cX8_moveRule 26 = .ok (.bipush (-5), 2) := by decide +kernel
theorem dX8_moveRule_28 : decode cX8_moveRule 28 = .ok (.ireturn, 1) := by decide +kernel
theorem dX8_moveRule_29 : decode cX8_moveRule 29 = .ok (.aload_n 0, 1) := by decide +kernel
theorem dX8_moveRule_30 : decode cX8_moveRule 30 = .ok (.invokevirtual 196, 3) := by decide +kernel
theorem dX8_moveRule_33 : decode cX8_moveRule 33 = .ok (.aload_n 0, 1) := by decide +kernel
theorem dX8_moveRule_34 : decode cX8_moveRule 34 = .ok (.invokevirtual 132, 3) := by decide +kernel
theorem dX8_moveRule_37 : decode cX8_moveRule 37 = .ok (.iconst 0, 1) := by decide +kernel
theorem dX8_moveRule_38 : decode cX8_moveRule 38 = .ok (.istore_n 3, 1) := by decide +kernel
theorem dX8_moveRule_39 : decode cX8_moveRule 39 = .ok (.iload_n 3, 1) := by decide +kernel
theorem dX8_moveRule_40 : decode cX8_moveRule 40 = .ok (.sipush 520, 3) := by decide +kernel
theorem dX8_moveRule_43 : decode cX8_moveRule 43 = .ok (.if_icmp .ge 21, 3) := by decide +kernel
theorem dX8_moveRule_46 : decode cX8_moveRule 46 = .ok (.aload_n 0, 1) := by decide +kernel
theorem dX8_moveRule_47 : decode cX8_moveRule 47 = .ok (.getfield 49, 3) := by decide +kernel
theorem dX8_moveRule_50 : decode cX8_moveRule 50 = .ok (.iload_n 3, 1) := by decide +kernel
theorem dX8_moveRule_51 : decode cX8_moveRule 51 = .ok (.aload_n 0, 1) := by decide +kernel
theorem dX8_moveRule_52 : decode cX8_moveRule 52 = .ok (.getfield 37, 3) := by decide +kernel
theorem dX8_moveRule_55 : decode cX8_moveRule 55 = .ok (.iload_n 3, 1) := by decide +kernel
theorem dX8_moveRule_56 : decode cX8_moveRule 56 = .ok (.iaload, 1) := by decide +kernel
theorem dX8_moveRule_57 : decode cX8_moveRule 57 = .ok (.iastore, 1) := by decide +kernel
theorem dX8_moveRule_58 : decode cX8_moveRule 58 = .ok (.iinc 3 1, 3) := by decide +kernel
theorem dX8_moveRule_61 : decode cX8_moveRule 61 = .ok (.goto (-22), 3) := by decide +kernel
theorem dX8_moveRule_64 : decode cX8_moveRule 64 = .ok (.iconst 0, 1) := by decide +kernel
theorem dX8_moveRule_65 : decode cX8_moveRule 65 = .ok (.istore_n 3, 1) := by decide +kernel
theorem dX8_moveRule_66 : decode cX8_moveRule 66 = .ok (.iload_n 3, 1) := by decide +kernel
theorem dX8_moveRule_67 : decode cX8_moveRule 67 = .ok (.bipush 20, 2) := by decide +kernel
theorem dX8_moveRule_69 : decode cX8_moveRule 69 = .ok (.if_icmp .ge 21, 3) := by decide +kernel
theorem dX8_moveRule_72 : decode cX8_moveRule 72 = .ok (.aload_n 0, 1) := by decide +kernel
theorem dX8_moveRule_73 : decode cX8_moveRule 73 = .ok (.getfield 52, 3) := by decide +kernel
theorem dX8_moveRule_76 : decode cX8_moveRule 76 = .ok (.iload_n 3, 1) := by decide +kernel
theorem dX8_moveRule_77 : decode cX8_moveRule 77 = .ok (.aload_n 0, 1) := by decide +kernel
theorem dX8_moveRule_78 : decode cX8_moveRule 78 = .ok (.getfield 40, 3) := by decide +kernel
theorem dX8_moveRule_81 : decode cX8_moveRule 81 = .ok (.iload_n 3, 1) := by decide +kernel
theorem dX8_moveRule_82 : decode cX8_moveRule 82 = .ok (.iaload, 1) := by decide +kernel
theorem dX8_moveRule_83 : decode cX8_moveRule 83 = .ok (.iastore, 1) := by decide +kernel
theorem dX8_moveRule_84 : decode cX8_moveRule 84 = .ok (.iinc 3 1, 3) := by decide +kernel
theorem dX8_moveRule_87 : decode cX8_moveRule 87 = .ok (.goto (-21), 3) := by decide +kernel
theorem dX8_moveRule_90 : decode cX8_moveRule 90 = .ok (.aload_n 0, 1) := by decide +kernel
theorem dX8_moveRule_91 : decode cX8_moveRule 91 = .ok (.iconst 0, 1) := by decide +kernel
theorem dX8_moveRule_92 : decode cX8_moveRule 92 = .ok (.iconst 2, 1) := by decide +kernel
theorem dX8_moveRule_93 : decode cX8_moveRule 93 = .ok (.bipush 7, 2) := by decide +kernel
theorem dX8_moveRule_95 : decode cX8_moveRule 95 = .ok (.iload_n 1, 1) := by decide +kernel
theorem dX8_moveRule_96 : decode cX8_moveRule 96 = .ok (.invokevirtual 208, 3) := by decide +kernel
theorem dX8_moveRule_99 : decode cX8_moveRule 99 = .ok (.bipush 7, 2) := by decide +kernel
theorem dX8_moveRule_101 : decode cX8_moveRule 101 = .ok (.aload_n 0, 1) := by decide +kernel
theorem dX8_moveRule_102 : decode cX8_moveRule 102 = .ok (.getfield 7, 3) := by decide +kernel
theorem dX8_moveRule_105 : decode cX8_moveRule 105 = .ok (.iconst 0, 1) := by decide +kernel
theorem dX8_moveRule_106 : decode cX8_moveRule 106 = .ok (.iaload, 1) := by decide +kernel
theorem dX8_moveRule_107 : decode cX8_moveRule 107 = .ok (.imul, 1) := by decide +kernel
theorem dX8_moveRule_108 : decode cX8_moveRule 108 = .ok (.iconst 1, 1) := by decide +kernel
theorem dX8_moveRule_109 : decode cX8_moveRule 109 = .ok (.isub, 1) := by decide +kernel
theorem dX8_moveRule_110 : decode cX8_moveRule 110 = .ok (.istore_n 3, 1) := by decide +kernel
theorem dX8_moveRule_111 : decode cX8_moveRule 111 = .ok (.iload_n 3, 1) := by decide +kernel
theorem dX8_moveRule_112 : decode cX8_moveRule 112 = .ok (.bipush 7, 2) := by decide +kernel
theorem dX8_moveRule_114 : decode cX8_moveRule 114 = .ok (.iload_n 2, 1) := by decide +kernel
theorem dX8_moveRule_115 : decode cX8_moveRule 115 = .ok (.imul, 1) := by decide +kernel
theorem dX8_moveRule_116 : decode cX8_moveRule 116 = .ok (.if_icmp .lt 28, 3) := by decide +kernel
theorem dX8_moveRule_119 : decode cX8_moveRule 119 = .ok (.aload_n 0, 1) := by decide +kernel
theorem dX8_moveRule_120 : decode cX8_moveRule 120 = .ok (.getfield 7, 3) := by decide +kernel
theorem dX8_moveRule_123 : decode cX8_moveRule 123 = .ok (.iconst 2, 1) := by decide +kernel
theorem dX8_moveRule_124 : decode cX8_moveRule 124 = .ok (.iload_n 3, 1) := by decide +kernel
theorem dX8_moveRule_125 : decode cX8_moveRule 125 = .ok (.iadd, 1) := by decide +kernel
theorem dX8_moveRule_126 : decode cX8_moveRule 126 = .ok (.bipush 7, 2) := by decide +kernel
theorem dX8_moveRule_128 : decode cX8_moveRule 128 = .ok (.iadd, 1) := by decide +kernel
theorem dX8_moveRule_129 : decode cX8_moveRule 129 = .ok (.aload_n 0, 1) := by decide +kernel
theorem dX8_moveRule_130 : decode cX8_moveRule 130 = .ok (.getfield 7, 3) := by decide +kernel
theorem dX8_moveRule_133 : decode cX8_moveRule 133 = .ok (.iconst 2, 1) := by decide +kernel
theorem dX8_moveRule_134 : decode cX8_moveRule 134 = .ok (.iload_n 3, 1) := by decide +kernel
theorem dX8_moveRule_135 : decode cX8_moveRule 135 = .ok (.iadd, 1) := by decide +kernel
theorem dX8_moveRule_136 : decode cX8_moveRule 136 = .ok (.iaload, 1) := by decide +kernel
theorem dX8_moveRule_137 : decode cX8_moveRule 137 = .ok (.iastore, 1) := by decide +kernel
theorem dX8_moveRule_138 : decode cX8_moveRule 138 = .ok (.iinc 3 (-1), 3) := by decide +kernel
theorem dX8_moveRule_141 : decode cX8_moveRule 141 = .ok (.goto (-30), 3) := by decide +kernel
theorem dX8_moveRule_144 : decode cX8_moveRule 144 = .ok (.aload_n 0, 1) := by decide +kernel
theorem dX8_moveRule_145 : decode cX8_moveRule 145 = .ok (.getfield 7, 3) := by decide +kernel
theorem dX8_moveRule_148 : decode cX8_moveRule 148 = .ok (.iconst 0, 1) := by decide +kernel
theorem dX8_moveRule_149 : decode cX8_moveRule 149 = .ok (.dup2, 1) := by decide +kernel
theorem dX8_moveRule_150 : decode cX8_moveRule 150 = .ok (.iaload, 1) := by decide +kernel
theorem dX8_moveRule_151 : decode cX8_moveRule 151 = .ok (.iconst 1, 1) := by decide +kernel
theorem dX8_moveRule_152 : decode cX8_moveRule 152 = .ok (.iadd, 1) := by decide +kernel
theorem dX8_moveRule_153 : decode cX8_moveRule 153 = .ok (.iastore, 1) := by decide +kernel
theorem dX8_moveRule_154 : decode cX8_moveRule 154 = .ok (.iconst 0, 1) := by decide +kernel
theorem dX8_moveRule_155 : decode cX8_moveRule 155 = .ok (.istore_n 3, 1) := by decide +kernel
theorem dX8_moveRule_156 : decode cX8_moveRule 156 = .ok (.iload_n 3, 1) := by decide +kernel
theorem dX8_moveRule_157 : decode cX8_moveRule 157 = .ok (.bipush 7, 2) := by decide +kernel
theorem dX8_moveRule_159 : decode cX8_moveRule 159 = .ok (.if_icmp .ge 31, 3) := by decide +kernel
theorem dX8_moveRule_162 : decode cX8_moveRule 162 = .ok (.aload_n 0, 1) := by decide +kernel
theorem dX8_moveRule_163 : decode cX8_moveRule 163 = .ok (.getfield 7, 3) := by decide +kernel
theorem dX8_moveRule_166 : decode cX8_moveRule 166 = .ok (.iload_n 2, 1) := by decide +kernel
theorem dX8_moveRule_167 : decode cX8_moveRule 167 = .ok (.invokestatic 70, 3) := by decide +kernel
theorem dX8_moveRule_170 : decode cX8_moveRule 170 = .ok (.iload_n 3, 1) := by decide +kernel
theorem dX8_moveRule_171 : decode cX8_moveRule 171 = .ok (.iadd, 1) := by decide +kernel
theorem dX8_moveRule_172 : decode cX8_moveRule 172 = .ok (.aload_n 0, 1) := by decide +kernel
theorem dX8_moveRule_173 : decode cX8_moveRule 173 = .ok (.getfield 13, 3) := by decide +kernel
theorem dX8_moveRule_176 : decode cX8_moveRule 176 = .ok (.iload_n 1, 1) := by decide +kernel
theorem dX8_moveRule_177 : decode cX8_moveRule 177 = .ok (.invokestatic 70, 3) := by decide +kernel
theorem dX8_moveRule_180 : decode cX8_moveRule 180 = .ok (.iload_n 3, 1) := by decide +kernel
theorem dX8_moveRule_181 : decode cX8_moveRule 181 = .ok (.iadd, 1) := by decide +kernel
theorem dX8_moveRule_182 : decode cX8_moveRule 182 = .ok (.iaload, 1) := by decide +kernel
theorem dX8_moveRule_183 : decode cX8_moveRule 183 = .ok (.iastore, 1) := by decide +kernel
theorem dX8_moveRule_184 : decode cX8_moveRule 184 = .ok (.iinc 3 1, 3) := by decide +kernel
theorem dX8_moveRule_187 : decode cX8_moveRule 187 = .ok (.goto (-31), 3) := by decide +kernel
theorem dX8_moveRule_190 : decode cX8_moveRule 190 = .ok (.aload_n 0, 1) := by decide +kernel
theorem dX8_moveRule_191 : decode cX8_moveRule 191 = .ok (.aload_n 0, 1) := by decide +kernel
theorem dX8_moveRule_192 : decode cX8_moveRule 192 = .ok (.invokevirtual 211, 3) := by decide +kernel
theorem dX8_moveRule_195 : decode cX8_moveRule 195 = .ok (.invokevirtual 202, 3) := by decide +kernel
theorem dX8_moveRule_198 : decode cX8_moveRule 198 = .ok (.ireturn, 1) := by decide +kernel
set_option maxRecDepth 20000 in
theorem ggX8_removeWord_X8_isWord : GoodIn wsX8_removeWord wsX8_isWord := goodIn_r _ [6, 1, 7, 8, 5, 9, 28, 29, 30, 31, 32, 33, 34, 35, 36, 37, 38, 39, 40, 41, 42, 43, 44, 45, 46, 47, 48, 49, 50, 51, 52, 53, 54, 55] (by decide +kernel) (by decide +kernel)
set_option maxRecDepth 20000 in
theorem gX8_removeWord_X8_isWord : GoodIn wsX8_removeWord (wsV RX8 214 RX8 yX8_isWord wsX8_isWord) := goodIn_app (goodIn_of _ (by decide +kernel)) ggX8_removeWord_X8_isWord
set_option maxRecDepth 20000 in
theorem ggX8_removeWord_X8_remember : GoodIn wsX8_removeWord wsX8_remember := goodIn_r _ [13, 1, 14, 15, 16, 5, 17, 28, 29, 30, 31, 32, 33, 34, 35, 36, 37, 38, 39, 40, 41, 42, 43, 44, 45, 46, 47, 48, 49, 50, 51, 52, 53, 54, 55] (by decide +kernel) (by decide +kernel)
set_option maxRecDepth 20000 in
theorem gX8_removeWord_X8_remember : GoodIn wsX8_removeWord (wsV RX8 196 RX8 yX8_remember wsX8_remember) := goodIn_app (goodIn_of _ (by decide +kernel)) ggX8_removeWord_X8_remember
set_option maxRecDepth 20000 in
theorem ggX8_removeWord_X8_takesOut : GoodIn wsX8_removeWord wsX8_takesOut := goodIn_r _ [21, 1, 28, 29, 30, 31, 32, 33, 34, 35, 36, 37, 38, 39, 40, 41, 42, 43, 44, 45, 46, 47, 48, 49, 50, 51, 52, 53, 54, 55] (by decide +kernel) (by decide +kernel)
set_option maxRecDepth 20000 in
theorem gX8_removeWord_X8_takesOut : GoodIn wsX8_removeWord (wsV RX8 208 RX8 yX8_takesOut wsX8_takesOut) := goodIn_app (goodIn_of _ (by decide +kernel)) ggX8_removeWord_X8_takesOut
set_option maxRecDepth 20000 in
theorem ggX8_removeWord_X8_acted : GoodIn wsX8_removeWord wsX8_acted := goodIn_r _ [25, 26, 27, 14, 28, 29, 30, 31, 32, 33, 34, 35, 36, 37, 38, 39, 40, 41, 42, 43, 44, 45, 46, 47, 48, 49, 50, 51, 52, 53, 54, 55] (by decide +kernel) (by decide +kernel)
set_option maxRecDepth 20000 in
theorem gX8_removeWord_X8_acted : GoodIn wsX8_removeWord (wsV RX8 202 RX8 yX8_acted wsX8_acted) := goodIn_app (goodIn_of _ (by decide +kernel)) ggX8_removeWord_X8_acted
theorem dX8_removeWord_0 : decode cX8_removeWord 0 = .ok (.aload_n 0, 1) := by decide +kernel
theorem dX8_removeWord_1 : decode cX8_removeWord 1 = .ok (.iload_n 1, 1) := by decide +kernel
theorem dX8_removeWord_2 : decode cX8_removeWord 2 = .ok (.invokevirtual 214, 3) := by decide +kernel
theorem dX8_removeWord_5 : decode cX8_removeWord 5 = .ok (.ifCond .ne 5, 3) := by decide +kernel
theorem dX8_removeWord_8 : decode cX8_removeWord 8 = .ok (.iconst (-1), 1) := by decide +kernel
theorem dX8_removeWord_9 : decode cX8_removeWord 9 = .ok (.ireturn, 1) := by decide +kernel
theorem dX8_removeWord_10 : decode cX8_removeWord 10 = .ok (.aload_n 0, 1) := by decide +kernel
theorem dX8_removeWord_11 : decode cX8_removeWord 11 = .ok (.invokevirtual 196, 3) := by decide +kernel
theorem dX8_removeWord_14 : decode cX8_removeWord 14 = .ok (.aload_n 0, 1) := by decide +kernel
theorem dX8_removeWord_15 : decode cX8_removeWord 15 = .ok (.iconst 1, 1) := by decide +kernel
theorem dX8_removeWord_16 : decode cX8_removeWord 16 = .ok (.sipush 290, 3) := by decide +kernel
theorem dX8_removeWord_19 : decode cX8_removeWord 19 = .ok (.bipush 14, 2) := by decide +kernel
theorem dX8_removeWord_21 : decode cX8_removeWord 21 = .ok (.iload_n 1, 1) := by decide +kernel
theorem dX8_removeWord_22 : decode cX8_removeWord 22 = .ok (.invokevirtual 208, 3) := by decide +kernel
theorem dX8_removeWord_25 : decode cX8_removeWord 25 = .ok (.aload_n 0, 1) := by decide +kernel
theorem dX8_removeWord_26 : decode cX8_removeWord 26 = .ok (.aload_n 0, 1) := by decide +kernel
theorem dX8_removeWord_27 : decode cX8_removeWord 27 = .ok (.getfield 7, 3) := by decide +kernel
theorem dX8_removeWord_30 : decode cX8_removeWord 30 = .ok (.iconst 1, 1) := by decide +kernel
theorem dX8_removeWord_31 : decode cX8_removeWord 31 = .ok (.iaload, 1) := by decide +kernel
theorem dX8_removeWord_32 : decode cX8_removeWord 32 = .ok (.invokevirtual 202, 3) := by decide +kernel
theorem dX8_removeWord_35 : decode cX8_removeWord 35 = .ok (.ireturn, 1) := by decide +kernel
set_option maxRecDepth 20000 in
theorem ggX8_setKind_X8_isWord : GoodIn wsX8_setKind wsX8_isWord := goodIn_r _ [7, 2, 8, 9, 6, 10, 28, 29, 30, 31, 32, 33, 34, 35, 36, 37, 38, 39, 40, 41, 42, 43, 44, 45, 46, 47, 48, 49, 50, 51, 52, 53, 54, 55] (by decide +kernel) (by decide +kernel)
set_option maxRecDepth 20000 in
theorem gX8_setKind_X8_isWord : GoodIn wsX8_setKind (wsV RX8 214 RX8 yX8_isWord wsX8_isWord) := goodIn_app (goodIn_of _ (by decide +kernel)) ggX8_setKind_X8_isWord
set_option maxRecDepth 20000 in
theorem ggX8_setKind_X8_in : GoodIn wsX8_setKind wsX8_in := goodIn_r _ [10] (by decide +kernel) (by decide +kernel)
set_option maxRecDepth 20000 in
theorem gX8_setKind_X8_in : GoodIn wsX8_setKind (va_wsS RX8 66 yX8_in wsX8_in) := goodIn_app (goodIn_of _ (by decide +kernel)) ggX8_setKind_X8_in
set_option maxRecDepth 20000 in
theorem ggX8_setKind_X8_wordAt : GoodIn wsX8_setKind wsX8_wordAt := goodIn_r _ [13] (by decide +kernel) (by decide +kernel)
set_option maxRecDepth 20000 in
theorem gX8_setKind_X8_wordAt : GoodIn wsX8_setKind (va_wsS RX8 100 yX8_wordAt wsX8_wordAt) := goodIn_app (goodIn_of _ (by decide +kernel)) ggX8_setKind_X8_wordAt
set_option maxRecDepth 20000 in
theorem ggX8_setKind_X8_remember : GoodIn wsX8_setKind wsX8_remember := goodIn_r _ [17, 2, 18, 19, 20, 6, 21, 28, 29, 30, 31, 32, 33, 34, 35, 36, 37, 38, 39, 40, 41, 42, 43, 44, 45, 46, 47, 48, 49, 50, 51, 52, 53, 54, 55] (by decide +kernel) (by decide +kernel)
set_option maxRecDepth 20000 in
theorem gX8_setKind_X8_remember : GoodIn wsX8_setKind (wsV RX8 196 RX8 yX8_remember wsX8_remember) := goodIn_app (goodIn_of _ (by decide +kernel)) ggX8_setKind_X8_remember
set_option maxRecDepth 20000 in
theorem ggX8_setKind_X8_acted : GoodIn wsX8_setKind wsX8_acted := goodIn_r _ [25, 26, 27, 18, 28, 29, 30, 31, 32, 33, 34, 35, 36, 37, 38, 39, 40, 41, 42, 43, 44, 45, 46, 47, 48, 49, 50, 51, 52, 53, 54, 55] (by decide +kernel) (by decide +kernel)
set_option maxRecDepth 20000 in
theorem gX8_setKind_X8_acted : GoodIn wsX8_setKind (wsV RX8 202 RX8 yX8_acted wsX8_acted) := goodIn_app (goodIn_of _ (by decide +kernel)) ggX8_setKind_X8_acted
theorem dX8_setKind_0 : decode cX8_setKind 0 = .ok (.aload_n 0, 1) := by decide +kernel
theorem dX8_setKind_1 : decode cX8_setKind 1 = .ok (.iload_n 1, 1) := by decide +kernel
theorem dX8_setKind_2 : decode cX8_setKind 2 = .ok (.invokevirtual 214, 3) := by decide +kernel
theorem dX8_setKind_5 : decode cX8_setKind 5 = .ok (.ifCond .ne 5, 3) := by decide +kernel
theorem dX8_setKind_8 : decode cX8_setKind 8 = .ok (.iconst (-1), 1) := by decide +kernel
theorem dX8_setKind_9 : decode cX8_setKind 9 = .ok (.ireturn, 1) := by decide +kernel
theorem dX8_setKind_10 : decode cX8_setKind 10 = .ok (.iload_n 2, 1) := by decide +kernel
theorem dX8_setKind_11 : decode cX8_setKind 11 = .ok (.i2l, 1) := by decide +kernel
theorem dX8_setKind_12 : decode cX8_setKind 12 = .ok (.lconst 0, 1) := by decide +kernel
theorem dX8_setKind_13 : decode cX8_setKind 13 = .ok (.ldc2_w 217, 3) := by decide +kernel
theorem dX8_setKind_16 : decode cX8_setKind 16 = .ok (.invokestatic 66, 3) := by decide +kernel
theorem dX8_setKind_19 : decode cX8_setKind 19 = .ok (.ifCond .ne 6, 3) := by decide +kernel
theorem dX8_setKind_22 : decode cX8_setKind 22 = .ok (.bipush (-2), 2) := by decide +kernel
theorem dX8_setKind_24 : decode cX8_setKind 24 = .ok (.ireturn, 1) := by decide +kernel
theorem dX8_setKind_25 : decode cX8_setKind 25 = .ok (.aload_n 0, 1) := by decide +kernel
theorem dX8_setKind_26 : decode cX8_setKind 26 = .ok (.getfield 7, 3) := by decide +kernel
theorem dX8_setKind_29 : decode cX8_setKind 29 = .ok (.iload_n 1, 1) := by decide +kernel
theorem dX8_setKind_30 : decode cX8_setKind 30 = .ok (.invokestatic 100, 3) := by decide +kernel
theorem dX8_setKind_33 : decode cX8_setKind 33 = .ok (.iaload, 1) := by decide +kernel
theorem dX8_setKind_34 : decode cX8_setKind 34 = .ok (.istore_n 3, 1) := by decide +kernel
theorem dX8_setKind_35 : decode cX8_setKind 35 = .ok (.iload_n 3, 1) := by decide +kernel
theorem dX8_setKind_36 : decode cX8_setKind 36 = .ok (.iload_n 2, 1) := by decide +kernel
theorem dX8_setKind_37 : decode cX8_setKind 37 = .ok (.if_icmp .ne 6, 3) := by decide +kernel
theorem dX8_setKind_40 : decode cX8_setKind 40 = .ok (.bipush (-5), 2) := by decide +kernel
theorem dX8_setKind_42 : decode cX8_setKind 42 = .ok (.ireturn, 1) := by decide +kernel
theorem dX8_setKind_43 : decode cX8_setKind 43 = .ok (.aload_n 0, 1) := by decide +kernel
theorem dX8_setKind_44 : decode cX8_setKind 44 = .ok (.invokevirtual 196, 3) := by decide +kernel
theorem dX8_setKind_47 : decode cX8_setKind 47 = .ok (.aload_n 0, 1) := by decide +kernel
theorem dX8_setKind_48 : decode cX8_setKind 48 = .ok (.getfield 7, 3) := by decide +kernel
theorem dX8_setKind_51 : decode cX8_setKind 51 = .ok (.iload_n 1, 1) := by decide +kernel
theorem dX8_setKind_52 : decode cX8_setKind 52 = .ok (.invokestatic 100, 3) := by decide +kernel
theorem dX8_setKind_55 : decode cX8_setKind 55 = .ok (.iload_n 2, 1) := by decide +kernel
theorem dX8_setKind_56 : decode cX8_setKind 56 = .ok (.iastore, 1) := by decide +kernel
theorem dX8_setKind_57 : decode cX8_setKind 57 = .ok (.aload_n 0, 1) := by decide +kernel
theorem dX8_setKind_58 : decode cX8_setKind 58 = .ok (.iload_n 3, 1) := by decide +kernel
theorem dX8_setKind_59 : decode cX8_setKind 59 = .ok (.invokevirtual 202, 3) := by decide +kernel
theorem dX8_setKind_62 : decode cX8_setKind 62 = .ok (.ireturn, 1) := by decide +kernel
set_option maxRecDepth 20000 in
theorem ggX8_markCollisions_X8_remember : GoodIn wsX8_markCollisions wsX8_remember := goodIn_r _ [6, 1, 7, 8, 9, 5, 10, 90, 91, 92, 93, 94, 95, 96, 97, 98, 99, 100, 101, 102, 103, 104, 105, 106, 107, 108, 109, 110, 111, 112, 113, 114, 115, 116, 117] (by decide +kernel) (by decide +kernel)
set_option maxRecDepth 20000 in
theorem gX8_markCollisions_X8_remember : GoodIn wsX8_markCollisions (wsV RX8 196 RX8 yX8_remember wsX8_remember) := goodIn_app (goodIn_of _ (by decide +kernel)) ggX8_markCollisions_X8_remember
set_option maxRecDepth 20000 in
theorem ggX8_markCollisions_X8_spells : GoodIn wsX8_markCollisions wsX8_spells := goodIn_r _ [14, 1, 15, 16, 17, 18, 19, 20, 21, 5, 22, 23, 24, 25, 26, 27, 28, 29, 30, 31, 32, 33, 34, 35, 36, 37, 38, 39, 40, 41, 42, 43, 44, 45, 46, 47, 48, 49, 50, 51, 52, 53, 54, 55, 56, 57, 58, 59, 60, 61, 62, 63, 64, 65, 66, 67, 68, 69, 70, 71, 72, 73, 74, 75, 90, 91, 92, 93, 94, 95, 96, 97, 98, 99, 100, 101, 102, 103, 104, 105, 106, 107, 108, 109, 110, 111, 112, 113, 114, 115, 116, 117] (by decide +kernel) (by decide +kernel)
