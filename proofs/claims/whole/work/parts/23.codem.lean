theorem dX10_init_0 : decode cX10_init 0 = .ok (.aload_n 0, 1) := by decide +kernel
theorem dX10_init_1 : decode cX10_init 1 = .ok (.invokespecial 1, 3) := by decide +kernel
theorem dX10_init_4 : decode cX10_init 4 = .ok (.aload_n 0, 1) := by decide +kernel
theorem dX10_init_5 : decode cX10_init 5 = .ok (.bipush 40, 2) := by decide +kernel
theorem dX10_init_7 : decode cX10_init 7 = .ok (.newarray .int, 2) := by decide +kernel
theorem dX10_init_9 : decode cX10_init 9 = .ok (.putfield 7, 3) := by decide +kernel
theorem dX10_init_12 : decode cX10_init 12 = .ok (.aload_n 0, 1) := by decide +kernel
theorem dX10_init_13 : decode cX10_init 13 = .ok (.iconst 1, 1) := by decide +kernel
theorem dX10_init_14 : decode cX10_init 14 = .ok (.putfield 13, 3) := by decide +kernel
theorem dX10_init_17 : decode cX10_init 17 = .ok (.aload_n 0, 1) := by decide +kernel
theorem dX10_init_18 : decode cX10_init 18 = .ok (.bipush 16, 2) := by decide +kernel
theorem dX10_init_20 : decode cX10_init 20 = .ok (.newarray .int, 2) := by decide +kernel
theorem dX10_init_22 : decode cX10_init 22 = .ok (.putfield 17, 3) := by decide +kernel
theorem dX10_init_25 : decode cX10_init 25 = .ok (.aload_n 0, 1) := by decide +kernel
theorem dX10_init_26 : decode cX10_init 26 = .ok (.bipush 16, 2) := by decide +kernel
theorem dX10_init_28 : decode cX10_init 28 = .ok (.newarray .int, 2) := by decide +kernel
theorem dX10_init_30 : decode cX10_init 30 = .ok (.putfield 20, 3) := by decide +kernel
theorem dX10_init_33 : decode cX10_init 33 = .ok (.aload_n 0, 1) := by decide +kernel
theorem dX10_init_34 : decode cX10_init 34 = .ok (.bipush 16, 2) := by decide +kernel
theorem dX10_init_36 : decode cX10_init 36 = .ok (.newarray .boolean, 2) := by decide +kernel
theorem dX10_init_38 : decode cX10_init 38 = .ok (.putfield 23, 3) := by decide +kernel
theorem dX10_init_41 : decode cX10_init 41 = .ok (.aload_n 0, 1) := by decide +kernel
theorem dX10_init_42 : decode cX10_init 42 = .ok (.bipush 16, 2) := by decide +kernel
theorem dX10_init_44 : decode cX10_init 44 = .ok (.newarray .int, 2) := by decide +kernel
theorem dX10_init_46 : decode cX10_init 46 = .ok (.putfield 27, 3) := by decide +kernel
theorem dX10_init_49 : decode cX10_init 49 = .ok (.aload_n 0, 1) := by decide +kernel
theorem dX10_init_50 : decode cX10_init 50 = .ok (.bipush 64, 2) := by decide +kernel
theorem dX10_init_52 : decode cX10_init 52 = .ok (.newarray .boolean, 2) := by decide +kernel
theorem dX10_init_54 : decode cX10_init 54 = .ok (.putfield 30, 3) := by decide +kernel
theorem dX10_init_57 : decode cX10_init 57 = .ok (.aload_n 0, 1) := by decide +kernel
theorem dX10_init_58 : decode cX10_init 58 = .ok (.bipush 16, 2) := by decide +kernel
theorem dX10_init_60 : decode cX10_init 60 = .ok (.newarray .int, 2) := by decide +kernel
theorem dX10_init_62 : decode cX10_init 62 = .ok (.putfield 33, 3) := by decide +kernel
theorem dX10_init_65 : decode cX10_init 65 = .ok (.aload_n 0, 1) := by decide +kernel
theorem dX10_init_66 : decode cX10_init 66 = .ok (.iconst 3, 1) := by decide +kernel
theorem dX10_init_67 : decode cX10_init 67 = .ok (.newarray .int, 2) := by decide +kernel
theorem dX10_init_69 : decode cX10_init 69 = .ok (.putfield 36, 3) := by decide +kernel
theorem dX10_init_72 : decode cX10_init 72 = .ok (.aload_n 0, 1) := by decide +kernel
theorem dX10_init_73 : decode cX10_init 73 = .ok (.iconst 4, 1) := by decide +kernel
theorem dX10_init_74 : decode cX10_init 74 = .ok (.newarray .int, 2) := by decide +kernel
theorem dX10_init_76 : decode cX10_init 76 = .ok (.putfield 39, 3) := by decide +kernel
theorem dX10_init_79 : decode cX10_init 79 = .ok (.aload_n 0, 1) := by decide +kernel
theorem dX10_init_80 : decode cX10_init 80 = .ok (.sipush 2160, 3) := by decide +kernel
theorem dX10_init_83 : decode cX10_init 83 = .ok (.newarray .int, 2) := by decide +kernel
theorem dX10_init_85 : decode cX10_init 85 = .ok (.putfield 42, 3) := by decide +kernel
theorem dX10_init_88 : decode cX10_init 88 = .ok (.aload_n 0, 1) := by decide +kernel
theorem dX10_init_89 : decode cX10_init 89 = .ok (.bipush 24, 2) := by decide +kernel
theorem dX10_init_91 : decode cX10_init 91 = .ok (.newarray .int, 2) := by decide +kernel
theorem dX10_init_93 : decode cX10_init 93 = .ok (.putfield 45, 3) := by decide +kernel
theorem dX10_init_96 : decode cX10_init 96 = .ok (.aload_n 0, 1) := by decide +kernel
theorem dX10_init_97 : decode cX10_init 97 = .ok (.iconst 4, 1) := by decide +kernel
theorem dX10_init_98 : decode cX10_init 98 = .ok (.newarray .boolean, 2) := by decide +kernel
theorem dX10_init_100 : decode cX10_init 100 = .ok (.putfield 48, 3) := by decide +kernel
theorem dX10_init_103 : decode cX10_init 103 = .ok (.aload_n 0, 1) := by decide +kernel
theorem dX10_init_104 : decode cX10_init 104 = .ok (.bipush 6, 2) := by decide +kernel
theorem dX10_init_106 : decode cX10_init 106 = .ok (.newarray .int, 2) := by decide +kernel
theorem dX10_init_108 : decode cX10_init 108 = .ok (.putfield 51, 3) := by decide +kernel
theorem dX10_init_111 : decode cX10_init 111 = .ok (.aload_n 0, 1) := by decide +kernel
theorem dX10_init_112 : decode cX10_init 112 = .ok (.bipush 6, 2) := by decide +kernel
theorem dX10_init_114 : decode cX10_init 114 = .ok (.newarray .int, 2) := by decide +kernel
theorem dX10_init_116 : decode cX10_init 116 = .ok (.putfield 54, 3) := by decide +kernel
theorem dX10_init_119 : decode cX10_init 119 = .ok (.aload_n 0, 1) := by decide +kernel
theorem dX10_init_120 : decode cX10_init 120 = .ok (.bipush 6, 2) := by decide +kernel
theorem dX10_init_122 : decode cX10_init 122 = .ok (.newarray .boolean, 2) := by decide +kernel
theorem dX10_init_124 : decode cX10_init 124 = .ok (.putfield 57, 3) := by decide +kernel
theorem dX10_init_127 : decode cX10_init 127 = .ok (.aload_n 0, 1) := by decide +kernel
theorem dX10_init_128 : decode cX10_init 128 = .ok (.bipush 6, 2) := by decide +kernel
theorem dX10_init_130 : decode cX10_init 130 = .ok (.newarray .boolean, 2) := by decide +kernel
theorem dX10_init_132 : decode cX10_init 132 = .ok (.putfield 60, 3) := by decide +kernel
theorem dX10_init_135 : decode cX10_init 135 = .ok (.aload_n 0, 1) := by decide +kernel
theorem dX10_init_136 : decode cX10_init 136 = .ok (.bipush 6, 2) := by decide +kernel
theorem dX10_init_138 : decode cX10_init 138 = .ok (.newarray .int, 2) := by decide +kernel
theorem dX10_init_140 : decode cX10_init 140 = .ok (.putfield 63, 3) := by decide +kernel
theorem dX10_init_143 : decode cX10_init 143 = .ok (.aload_n 0, 1) := by decide +kernel
theorem dX10_init_144 : decode cX10_init 144 = .ok (.bipush 6, 2) := by decide +kernel
theorem dX10_init_146 : decode cX10_init 146 = .ok (.newarray .boolean, 2) := by decide +kernel
theorem dX10_init_148 : decode cX10_init 148 = .ok (.putfield 66, 3) := by decide +kernel
theorem dX10_init_151 : decode cX10_init 151 = .ok (.aload_n 0, 1) := by decide +kernel
theorem dX10_init_152 : decode cX10_init 152 = .ok (.bipush 6, 2) := by decide +kernel
theorem dX10_init_154 : decode cX10_init 154 = .ok (.newarray .int, 2) := by decide +kernel
theorem dX10_init_156 : decode cX10_init 156 = .ok (.putfield 69, 3) := by decide +kernel
theorem dX10_init_159 : decode cX10_init 159 = .ok (.aload_n 0, 1) := by decide +kernel
theorem dX10_init_160 : decode cX10_init 160 = .ok (.bipush 6, 2) := by decide +kernel
theorem dX10_init_162 : decode cX10_init 162 = .ok (.newarray .int, 2) := by decide +kernel
theorem dX10_init_164 : decode cX10_init 164 = .ok (.putfield 72, 3) := by decide +kernel
theorem dX10_init_167 : decode cX10_init 167 = .ok (.aload_n 0, 1) := by decide +kernel
theorem dX10_init_168 : decode cX10_init 168 = .ok (.bipush 6, 2) := by decide +kernel
theorem dX10_init_170 : decode cX10_init 170 = .ok (.newarray .int, 2) := by decide +kernel
theorem dX10_init_172 : decode cX10_init 172 = .ok (.putfield 75, 3) := by decide +kernel
theorem dX10_init_175 : decode cX10_init 175 = .ok (.aload_n 0, 1) := by decide +kernel
theorem dX10_init_176 : decode cX10_init 176 = .ok (.bipush 8, 2) := by decide +kernel
theorem dX10_init_178 : decode cX10_init 178 = .ok (.newarray .int, 2) := by decide +kernel
theorem dX10_init_180 : decode cX10_init 180 = .ok (.putfield 78, 3) := by decide +kernel
theorem dX10_init_183 : decode cX10_init 183 = .ok (.aload_n 0, 1) := by decide +kernel
theorem dX10_init_184 : decode cX10_init 184 = .ok (.bipush 8, 2) := by decide +kernel
theorem dX10_init_186 : decode cX10_init 186 = .ok (.newarray .int, 2) := by decide +kernel
theorem dX10_init_188 : decode cX10_init 188 = .ok (.putfield 81, 3) := by decide +kernel
theorem dX10_init_191 : decode cX10_init 191 = .ok (.aload_n 0, 1) := by decide +kernel
theorem dX10_init_192 : decode cX10_init 192 = .ok (.sipush 300, 3) := by decide +kernel
theorem dX10_init_195 : decode cX10_init 195 = .ok (.newarray .int, 2) := by decide +kernel
theorem dX10_init_197 : decode cX10_init 197 = .ok (.putfield 84, 3) := by decide +kernel
theorem dX10_init_200 : decode cX10_init 200 = .ok (.aload_n 0, 1) := by decide +kernel
theorem dX10_init_201 : decode cX10_init 201 = .ok (.sipush 300, 3) := by decide +kernel
theorem dX10_init_204 : decode cX10_init 204 = .ok (.newarray .int, 2) := by decide +kernel
theorem dX10_init_206 : decode cX10_init 206 = .ok (.putfield 87, 3) := by decide +kernel
theorem dX10_init_209 : decode cX10_init 209 = .ok (.aload_n 0, 1) := by decide +kernel
theorem dX10_init_210 : decode cX10_init 210 = .ok (.sipush 300, 3) := by decide +kernel
theorem dX10_init_213 : decode cX10_init 213 = .ok (.newarray .int, 2) := by decide +kernel
theorem dX10_init_215 : decode cX10_init 215 = .ok (.putfield 90, 3) := by decide +kernel
theorem dX10_init_218 : decode cX10_init 218 = .ok (.aload_n 0, 1) := by decide +kernel
theorem dX10_init_219 : decode cX10_init 219 = .ok (.sipush 300, 3) := by decide +kernel
theorem dX10_init_222 : decode cX10_init 222 = .ok (.newarray .int, 2) := by decide +kernel
theorem dX10_init_224 : decode cX10_init 224 = .ok (.putfield 93, 3) := by decide +kernel
theorem dX10_init_227 : decode cX10_init 227 = .ok (.aload_n 0, 1) := by decide +kernel
theorem dX10_init_228 : decode cX10_init 228 = .ok (.sipush 300, 3) := by decide +kernel
theorem dX10_init_231 : decode cX10_init 231 = .ok (.newarray .boolean, 2) := by decide +kernel
theorem dX10_init_233 : decode cX10_init 233 = .ok (.putfield 96, 3) := by decide +kernel
theorem dX10_init_236 : decode cX10_init 236 = .ok (.aload_n 0, 1) := by decide +kernel
theorem dX10_init_237 : decode cX10_init 237 = .ok (.sipush 300, 3) := by decide +kernel
theorem dX10_init_240 : decode cX10_init 240 = .ok (.newarray .boolean, 2) := by decide +kernel
theorem dX10_init_242 : decode cX10_init 242 = .ok (.putfield 99, 3) := by decide +kernel
theorem dX10_init_245 : decode cX10_init 245 = .ok (.aload_n 0, 1) := by decide +kernel
theorem dX10_init_246 : decode cX10_init 246 = .ok (.iconst 5, 1) := by decide +kernel
theorem dX10_init_247 : decode cX10_init 247 = .ok (.newarray .int, 2) := by decide +kernel
theorem dX10_init_249 : decode cX10_init 249 = .ok (.putfield 102, 3) := by decide +kernel
theorem dX10_init_252 : decode cX10_init 252 = .ok (.aload_n 0, 1) := by decide +kernel
theorem dX10_init_253 : decode cX10_init 253 = .ok (.iconst 5, 1) := by decide +kernel
theorem dX10_init_254 : decode cX10_init 254 = .ok (.newarray .int, 2) := by decide +kernel
theorem dX10_init_256 : decode cX10_init 256 = .ok (.putfield 105, 3) := by decide +kernel
theorem dX10_init_259 : decode cX10_init 259 = .ok (.aload_n 0, 1) := by decide +kernel
theorem dX10_init_260 : decode cX10_init 260 = .ok (.iconst 5, 1) := by decide +kernel
theorem dX10_init_261 : decode cX10_init 261 = .ok (.newarray .int, 2) := by decide +kernel
theorem dX10_init_263 : decode cX10_init 263 = .ok (.putfield 108, 3) := by decide +kernel
theorem dX10_init_266 : decode cX10_init 266 = .ok (.aload_n 0, 1) := by decide +kernel
theorem dX10_init_267 : decode cX10_init 267 = .ok (.bipush 90, 2) := by decide +kernel
theorem dX10_init_269 : decode cX10_init 269 = .ok (.newarray .int, 2) := by decide +kernel
theorem dX10_init_271 : decode cX10_init 271 = .ok (.putfield 111, 3) := by decide +kernel
theorem dX10_init_274 : decode cX10_init 274 = .ok (.iconst 0, 1) := by decide +kernel
theorem dX10_init_275 : decode cX10_init 275 = .ok (.istore_n 1, 1) := by decide +kernel
theorem dX10_init_276 : decode cX10_init 276 = .ok (.iload_n 1, 1) := by decide +kernel
theorem dX10_init_277 : decode cX10_init 277 = .ok (.bipush 16, 2) := by decide +kernel
theorem dX10_init_279 : decode cX10_init 279 = .ok (.if_icmp .ge 16, 3) := by decide +kernel
theorem dX10_init_282 : decode cX10_init 282 = .ok (.aload_n 0, 1) := by decide +kernel
theorem dX10_init_283 : decode cX10_init 283 = .ok (.getfield 33, 3) := by decide +kernel
theorem dX10_init_286 : decode cX10_init 286 = .ok (.iload_n 1, 1) := by decide +kernel
theorem dX10_init_287 : decode cX10_init 287 = .ok (.iconst (-1), 1) := by decide +kernel
theorem dX10_init_288 : decode cX10_init 288 = .ok (.iastore, 1) := by decide +kernel
theorem dX10_init_289 : decode cX10_init 289 = .ok (.iinc 1 1, 3) := by decide +kernel
theorem dX10_init_292 : decode cX10_init 292 = .ok (.goto (-16), 3) := by decide +kernel
theorem dX10_init_295 : decode cX10_init 295 = .ok (.return_, 1) := by decide +kernel
theorem dX10_thrown_0 : decode cX10_thrown 0 = .ok (.aload_n 0, 1) := by decide +kernel
theorem dX10_thrown_1 : decode cX10_thrown 1 = .ok (.getfield 114, 3) := by decide +kernel
theorem dX10_thrown_4 : decode cX10_thrown 4 = .ok (.ireturn, 1) := by decide +kernel
theorem dX10_asked_0 : decode cX10_asked 0 = .ok (.aload_n 0, 1) := by decide +kernel
theorem dX10_asked_1 : decode cX10_asked 1 = .ok (.iload_n 1, 1) := by decide +kernel
theorem dX10_asked_2 : decode cX10_asked 2 = .ok (.ifCond .eq 7, 3) := by decide +kernel
theorem dX10_asked_5 : decode cX10_asked 5 = .ok (.iconst 0, 1) := by decide +kernel
theorem dX10_asked_6 : decode cX10_asked 6 = .ok (.goto 4, 3) := by decide +kernel
theorem dX10_asked_9 : decode cX10_asked 9 = .ok (.iconst 1, 1) := by decide +kernel
theorem dX10_asked_10 : decode cX10_asked 10 = .ok (.putfield 114, 3) := by decide +kernel
theorem dX10_asked_13 : decode cX10_asked 13 = .ok (.iload_n 1, 1) := by decide +kernel
theorem dX10_asked_14 : decode cX10_asked 14 = .ok (.ireturn, 1) := by decide +kernel
theorem dX10_asked__0 : decode cX10_asked_ 0 = .ok (.aload_n 0, 1) := by decide +kernel
theorem dX10_asked__1 : decode cX10_asked_ 1 = .ok (.iload_n 1, 1) := by decide +kernel
theorem dX10_asked__2 : decode cX10_asked_ 2 = .ok (.ifCond .ne 7, 3) := by decide +kernel
theorem dX10_asked__5 : decode cX10_asked_ 5 = .ok (.iconst 1, 1) := by decide +kernel
theorem dX10_asked__6 : decode cX10_asked_ 6 = .ok (.goto 12, 3) := by decide +kernel
theorem dX10_asked__9 : decode cX10_asked_ 9 = .ok (.iload_n 2, 1) := by decide +kernel
theorem dX10_asked__10 : decode cX10_asked_ 10 = .ok (.ifCond .eq 7, 3) := by decide +kernel
theorem dX10_asked__13 : decode cX10_asked_ 13 = .ok (.iconst 0, 1) := by decide +kernel
theorem dX10_asked__14 : decode cX10_asked_ 14 = .ok (.goto 4, 3) := by decide +kernel
theorem dX10_asked__17 : decode cX10_asked_ 17 = .ok (.iconst 2, 1) := by decide +kernel
theorem dX10_asked__18 : decode cX10_asked_ 18 = .ok (.putfield 114, 3) := by decide +kernel
theorem dX10_asked__21 : decode cX10_asked_ 21 = .ok (.aload_n 0, 1) := by decide +kernel
theorem dX10_asked__22 : decode cX10_asked_ 22 = .ok (.getfield 114, 3) := by decide +kernel
theorem dX10_asked__25 : decode cX10_asked_ 25 = .ok (.ifCond .ne 7, 3) := by decide +kernel
theorem dX10_asked__28 : decode cX10_asked_ 28 = .ok (.iconst 1, 1) := by decide +kernel
theorem dX10_asked__29 : decode cX10_asked_ 29 = .ok (.goto 4, 3) := by decide +kernel
theorem dX10_asked__32 : decode cX10_asked_ 32 = .ok (.iconst 0, 1) := by decide +kernel
theorem dX10_asked__33 : decode cX10_asked_ 33 = .ok (.ireturn, 1) := by decide +kernel
theorem dX10_asked___0 : decode cX10_asked__ 0 = .ok (.aload_n 0, 1) := by decide +kernel
theorem dX10_asked___1 : decode cX10_asked__ 1 = .ok (.iload_n 1, 1) := by decide +kernel
theorem dX10_asked___2 : decode cX10_asked__ 2 = .ok (.ifCond .ne 7, 3) := by decide +kernel
theorem dX10_asked___5 : decode cX10_asked__ 5 = .ok (.iconst 1, 1) := by decide +kernel
theorem dX10_asked___6 : decode cX10_asked__ 6 = .ok (.goto 20, 3) := by decide +kernel
theorem dX10_asked___9 : decode cX10_asked__ 9 = .ok (.iload_n 2, 1) := by decide +kernel
theorem dX10_asked___10 : decode cX10_asked__ 10 = .ok (.ifCond .ne 7, 3) := by decide +kernel
theorem dX10_asked___13 : decode cX10_asked__ 13 = .ok (.iconst 2, 1) := by decide +kernel
theorem dX10_asked___14 : decode cX10_asked__ 14 = .ok (.goto 12, 3) := by decide +kernel
theorem dX10_asked___17 : decode cX10_asked__ 17 = .ok (.iload_n 3, 1) := by decide +kernel
theorem dX10_asked___18 : decode cX10_asked__ 18 = .ok (.ifCond .eq 7, 3) := by decide +kernel
theorem dX10_asked___21 : decode cX10_asked__ 21 = .ok (.iconst 0, 1) := by decide +kernel
theorem dX10_asked___22 : decode cX10_asked__ 22 = .ok (.goto 4, 3) := by decide +kernel
theorem dX10_asked___25 : decode cX10_asked__ 25 = .ok (.iconst 3, 1) := by decide +kernel
theorem dX10_asked___26 : decode cX10_asked__ 26 = .ok (.putfield 114, 3) := by decide +kernel
theorem dX10_asked___29 : decode cX10_asked__ 29 = .ok (.aload_n 0, 1) := by decide +kernel
theorem dX10_asked___30 : decode cX10_asked__ 30 = .ok (.getfield 114, 3) := by decide +kernel
theorem dX10_asked___33 : decode cX10_asked__ 33 = .ok (.ifCond .ne 7, 3) := by decide +kernel
theorem dX10_asked___36 : decode cX10_asked__ 36 = .ok (.iconst 1, 1) := by decide +kernel
theorem dX10_asked___37 : decode cX10_asked__ 37 = .ok (.goto 4, 3) := by decide +kernel
theorem dX10_asked___40 : decode cX10_asked__ 40 = .ok (.iconst 0, 1) := by decide +kernel
theorem dX10_asked___41 : decode cX10_asked__ 41 = .ok (.ireturn, 1) := by decide +kernel
theorem dX10_in_0 : decode cX10_in 0 = .ok (.iload_n 0, 1) := by decide +kernel
theorem dX10_in_1 : decode cX10_in 1 = .ok (.iload_n 1, 1) := by decide +kernel
theorem dX10_in_2 : decode cX10_in 2 = .ok (.if_icmp .lt 12, 3) := by decide +kernel
theorem dX10_in_5 : decode cX10_in 5 = .ok (.iload_n 0, 1) := by decide +kernel
theorem dX10_in_6 : decode cX10_in 6 = .ok (.iload_n 2, 1) := by decide +kernel
theorem dX10_in_7 : decode cX10_in 7 = .ok (.if_icmp .gt 7, 3) := by decide +kernel
theorem dX10_in_10 : decode cX10_in 10 = .ok (.iconst 1, 1) := by decide +kernel
theorem dX10_in_11 : decode cX10_in 11 = .ok (.goto 4, 3) := by decide +kernel
theorem dX10_in_14 : decode cX10_in 14 = .ok (.iconst 0, 1) := by decide +kernel
theorem dX10_in_15 : decode cX10_in 15 = .ok (.ireturn, 1) := by decide +kernel
set_option maxRecDepth 20000 in
theorem ggX10_isPupil_X10_in : GoodIn wsX10_isPupil wsX10_in := goodIn_r _ [5] (by decide +kernel) (by decide +kernel)
set_option maxRecDepth 20000 in
theorem gX10_isPupil_X10_in : GoodIn wsX10_isPupil (va_wsS RX10 120 yX10_in wsX10_in) := goodIn_app (goodIn_of _ (by decide +kernel)) ggX10_isPupil_X10_in
theorem dX10_isPupil_0 : decode cX10_isPupil 0 = .ok (.iload_n 1, 1) := by decide +kernel
theorem dX10_isPupil_1 : decode cX10_isPupil 1 = .ok (.iconst 0, 1) := by decide +kernel
theorem dX10_isPupil_2 : decode cX10_isPupil 2 = .ok (.aload_n 0, 1) := by decide +kernel
theorem dX10_isPupil_3 : decode cX10_isPupil 3 = .ok (.getfield 117, 3) := by decide +kernel
theorem dX10_isPupil_6 : decode cX10_isPupil 6 = .ok (.iconst 1, 1) := by decide +kernel
theorem dX10_isPupil_7 : decode cX10_isPupil 7 = .ok (.isub, 1) := by decide +kernel
theorem dX10_isPupil_8 : decode cX10_isPupil 8 = .ok (.invokestatic 120, 3) := by decide +kernel
theorem dX10_isPupil_11 : decode cX10_isPupil 11 = .ok (.ireturn, 1) := by decide +kernel
set_option maxRecDepth 20000 in
theorem ggX10_isQuestion_X10_in : GoodIn wsX10_isQuestion wsX10_in := goodIn_r _ [4] (by decide +kernel) (by decide +kernel)
set_option maxRecDepth 20000 in
theorem gX10_isQuestion_X10_in : GoodIn wsX10_isQuestion (va_wsS RX10 120 yX10_in wsX10_in) := goodIn_app (goodIn_of _ (by decide +kernel)) ggX10_isQuestion_X10_in
theorem dX10_isQuestion_0 : decode cX10_isQuestion 0 = .ok (.iload_n 0, 1) := by decide +kernel
theorem dX10_isQuestion_1 : decode cX10_isQuestion 1 = .ok (.iconst 0, 1) := by decide +kernel
theorem dX10_isQuestion_2 : decode cX10_isQuestion 2 = .ok (.iconst 3, 1) := by decide +kernel
theorem dX10_isQuestion_3 : decode cX10_isQuestion 3 = .ok (.invokestatic 120, 3) := by decide +kernel
theorem dX10_isQuestion_6 : decode cX10_isQuestion 6 = .ok (.ireturn, 1) := by decide +kernel
set_option maxRecDepth 20000 in
theorem ggX10_isReader_X10_in : GoodIn wsX10_isReader wsX10_in := goodIn_r _ [5] (by decide +kernel) (by decide +kernel)
set_option maxRecDepth 20000 in
theorem gX10_isReader_X10_in : GoodIn wsX10_isReader (va_wsS RX10 120 yX10_in wsX10_in) := goodIn_app (goodIn_of _ (by decide +kernel)) ggX10_isReader_X10_in
theorem dX10_isReader_0 : decode cX10_isReader 0 = .ok (.iload_n 1, 1) := by decide +kernel
theorem dX10_isReader_1 : decode cX10_isReader 1 = .ok (.iconst 0, 1) := by decide +kernel
theorem dX10_isReader_2 : decode cX10_isReader 2 = .ok (.aload_n 0, 1) := by decide +kernel
theorem dX10_isReader_3 : decode cX10_isReader 3 = .ok (.getfield 124, 3) := by decide +kernel
theorem dX10_isReader_6 : decode cX10_isReader 6 = .ok (.iconst 1, 1) := by decide +kernel
theorem dX10_isReader_7 : decode cX10_isReader 7 = .ok (.isub, 1) := by decide +kernel
theorem dX10_isReader_8 : decode cX10_isReader 8 = .ok (.invokestatic 120, 3) := by decide +kernel
theorem dX10_isReader_11 : decode cX10_isReader 11 = .ok (.ireturn, 1) := by decide +kernel
theorem dX10_apart_0 : decode cX10_apart 0 = .ok (.iload_n 0, 1) := by decide +kernel
theorem dX10_apart_1 : decode cX10_apart 1 = .ok (.iload_n 1, 1) := by decide +kernel
theorem dX10_apart_2 : decode cX10_apart 2 = .ok (.if_icmp .le 9, 3) := by decide +kernel
theorem dX10_apart_5 : decode cX10_apart 5 = .ok (.iload_n 0, 1) := by decide +kernel
theorem dX10_apart_6 : decode cX10_apart 6 = .ok (.iload_n 1, 1) := by decide +kernel
theorem dX10_apart_7 : decode cX10_apart 7 = .ok (.isub, 1) := by decide +kernel
theorem dX10_apart_8 : decode cX10_apart 8 = .ok (.goto 6, 3) := by decide +kernel
theorem dX10_apart_11 : decode cX10_apart 11 = .ok (.iload_n 1, 1) := by decide +kernel
theorem dX10_apart_12 : decode cX10_apart 12 = .ok (.iload_n 0, 1) := by decide +kernel
theorem dX10_apart_13 : decode cX10_apart 13 = .ok (.isub, 1) := by decide +kernel
theorem dX10_apart_14 : decode cX10_apart 14 = .ok (.ireturn, 1) := by decide +kernel
set_option maxRecDepth 20000 in
theorem ggX10_pupil_X10_in : GoodIn wsX10_pupil wsX10_in := goodIn_r _ [8] (by decide +kernel) (by decide +kernel)
set_option maxRecDepth 20000 in
theorem gX10_pupil_X10_in : GoodIn wsX10_pupil (va_wsS RX10 120 yX10_in wsX10_in) := goodIn_app (goodIn_of _ (by decide +kernel)) ggX10_pupil_X10_in
set_option maxRecDepth 20000 in
theorem ggX10_pupil_X10_asked_ : GoodIn wsX10_pupil wsX10_asked_ := goodIn_r _ [12, 13, 14, 15, 16, 17, 18, 19, 20, 21, 22, 23, 24, 25, 26, 27, 28, 29, 30, 31, 32, 33, 34, 35, 36, 37, 38, 39, 40, 41, 42, 43, 44, 45, 46, 47, 48, 49, 50, 51, 52, 53, 54] (by decide +kernel) (by decide +kernel)
set_option maxRecDepth 20000 in
theorem gX10_pupil_X10_asked_ : GoodIn wsX10_pupil (wsV RX10 127 RX10 yX10_asked_ wsX10_asked_) := goodIn_app (goodIn_of _ (by decide +kernel)) ggX10_pupil_X10_asked_
theorem dX10_pupil_0 : decode cX10_pupil 0 = .ok (.aload_n 0, 1) := by decide +kernel
theorem dX10_pupil_1 : decode cX10_pupil 1 = .ok (.iload_n 1, 1) := by decide +kernel
theorem dX10_pupil_2 : decode cX10_pupil 2 = .ok (.iconst 0, 1) := by decide +kernel
theorem dX10_pupil_3 : decode cX10_pupil 3 = .ok (.iconst 4, 1) := by decide +kernel
theorem dX10_pupil_4 : decode cX10_pupil 4 = .ok (.invokestatic 120, 3) := by decide +kernel
theorem dX10_pupil_7 : decode cX10_pupil 7 = .ok (.ifCond .eq 17, 3) := by decide +kernel
theorem dX10_pupil_10 : decode cX10_pupil 10 = .ok (.iload_n 2, 1) := by decide +kernel
theorem dX10_pupil_11 : decode cX10_pupil 11 = .ok (.iconst 0, 1) := by decide +kernel
theorem dX10_pupil_12 : decode cX10_pupil 12 = .ok (.bipush 15, 2) := by decide +kernel
theorem dX10_pupil_14 : decode cX10_pupil 14 = .ok (.invokestatic 120, 3) := by decide +kernel
theorem dX10_pupil_17 : decode cX10_pupil 17 = .ok (.ifCond .eq 7, 3) := by decide +kernel
theorem dX10_pupil_20 : decode cX10_pupil 20 = .ok (.iconst 1, 1) := by decide +kernel
theorem dX10_pupil_21 : decode cX10_pupil 21 = .ok (.goto 4, 3) := by decide +kernel
theorem dX10_pupil_24 : decode cX10_pupil 24 = .ok (.iconst 0, 1) := by decide +kernel
theorem dX10_pupil_25 : decode cX10_pupil 25 = .ok (.aload_n 0, 1) := by decide +kernel
theorem dX10_pupil_26 : decode cX10_pupil 26 = .ok (.getfield 117, 3) := by decide +kernel
theorem dX10_pupil_29 : decode cX10_pupil 29 = .ok (.bipush 16, 2) := by decide +kernel
theorem dX10_pupil_31 : decode cX10_pupil 31 = .ok (.if_icmp .ge 7, 3) := by decide +kernel
theorem dX10_pupil_34 : decode cX10_pupil 34 = .ok (.iconst 1, 1) := by decide +kernel
theorem dX10_pupil_35 : decode cX10_pupil 35 = .ok (.goto 4, 3) := by decide +kernel
theorem dX10_pupil_38 : decode cX10_pupil 38 = .ok (.iconst 0, 1) := by decide +kernel
theorem dX10_pupil_39 : decode cX10_pupil 39 = .ok (.invokevirtual 127, 3) := by decide +kernel
theorem dX10_pupil_42 : decode cX10_pupil 42 = .ok (.ifCond .ne 5, 3) := by decide +kernel
theorem dX10_pupil_45 : decode cX10_pupil 45 = .ok (.iconst 0, 1) := by decide +kernel
theorem dX10_pupil_46 : decode cX10_pupil 46 = .ok (.ireturn, 1) := by decide +kernel
theorem dX10_pupil_47 : decode cX10_pupil 47 = .ok (.aload_n 0, 1) := by decide +kernel
theorem dX10_pupil_48 : decode cX10_pupil 48 = .ok (.getfield 17, 3) := by decide +kernel
theorem dX10_pupil_51 : decode cX10_pupil 51 = .ok (.aload_n 0, 1) := by decide +kernel
theorem dX10_pupil_52 : decode cX10_pupil 52 = .ok (.getfield 117, 3) := by decide +kernel
theorem dX10_pupil_55 : decode cX10_pupil 55 = .ok (.iload_n 1, 1) := by decide +kernel
theorem dX10_pupil_56 : decode cX10_pupil 56 = .ok (.iastore, 1) := by decide +kernel
theorem dX10_pupil_57 : decode cX10_pupil 57 = .ok (.aload_n 0, 1) := by decide +kernel
theorem dX10_pupil_58 : decode cX10_pupil 58 = .ok (.getfield 20, 3) := by decide +kernel
theorem dX10_pupil_61 : decode cX10_pupil 61 = .ok (.aload_n 0, 1) := by decide +kernel
theorem dX10_pupil_62 : decode cX10_pupil 62 = .ok (.getfield 117, 3) := by decide +kernel
theorem dX10_pupil_65 : decode cX10_pupil 65 = .ok (.iload_n 2, 1) := by decide +kernel
theorem dX10_pupil_66 : decode cX10_pupil 66 = .ok (.iastore, 1) := by decide +kernel
theorem dX10_pupil_67 : decode cX10_pupil 67 = .ok (.aload_n 0, 1) := by decide +kernel
theorem dX10_pupil_68 : decode cX10_pupil 68 = .ok (.getfield 23, 3) := by decide +kernel
theorem dX10_pupil_71 : decode cX10_pupil 71 = .ok (.aload_n 0, 1) := by decide +kernel
theorem dX10_pupil_72 : decode cX10_pupil 72 = .ok (.getfield 117, 3) := by decide +kernel
theorem dX10_pupil_75 : decode cX10_pupil 75 = .ok (.iload_n 3, 1) := by decide +kernel
theorem dX10_pupil_76 : decode cX10_pupil 76 = .ok (.bastore, 1) := by decide +kernel
theorem dX10_pupil_77 : decode cX10_pupil 77 = .ok (.aload_n 0, 1) := by decide +kernel
theorem dX10_pupil_78 : decode cX10_pupil 78 = .ok (.dup, 1) := by decide +kernel
theorem dX10_pupil_79 : decode cX10_pupil 79 = .ok (.getfield 117, 3) := by decide +kernel
theorem dX10_pupil_82 : decode cX10_pupil 82 = .ok (.iconst 1, 1) := by decide +kernel
theorem dX10_pupil_83 : decode cX10_pupil 83 = .ok (.iadd, 1) := by decide +kernel
theorem dX10_pupil_84 : decode cX10_pupil 84 = .ok (.putfield 117, 3) := by decide +kernel
theorem dX10_pupil_87 : decode cX10_pupil 87 = .ok (.aload_n 0, 1) := by decide +kernel
theorem dX10_pupil_88 : decode cX10_pupil 88 = .ok (.getfield 117, 3) := by decide +kernel
theorem dX10_pupil_91 : decode cX10_pupil 91 = .ok (.iconst 1, 1) := by decide +kernel
theorem dX10_pupil_92 : decode cX10_pupil 92 = .ok (.isub, 1) := by decide +kernel
theorem dX10_pupil_93 : decode cX10_pupil 93 = .ok (.ireturn, 1) := by decide +kernel
set_option maxRecDepth 20000 in
theorem ggX10_gift_X10_isPupil : GoodIn wsX10_gift wsX10_isPupil := goodIn_r _ [6, 7, 8, 9, 5, 10, 16, 17, 18, 19, 20, 21, 22, 23, 24, 25, 26, 27, 28, 29, 30, 31, 32, 33, 34, 35, 36, 37, 38, 39, 40, 41, 42, 43, 44, 45, 46, 47, 48, 49, 50, 51, 52, 53, 54, 55, 56] (by decide +kernel) (by decide +kernel)
set_option maxRecDepth 20000 in
theorem gX10_gift_X10_isPupil : GoodIn wsX10_gift (wsV RX10 131 RX10 yX10_isPupil wsX10_isPupil) := goodIn_app (goodIn_of _ (by decide +kernel)) ggX10_gift_X10_isPupil
set_option maxRecDepth 20000 in
theorem ggX10_gift_X10_in : GoodIn wsX10_gift wsX10_in := goodIn_r _ [10] (by decide +kernel) (by decide +kernel)
set_option maxRecDepth 20000 in
theorem gX10_gift_X10_in : GoodIn wsX10_gift (va_wsS RX10 120 yX10_in wsX10_in) := goodIn_app (goodIn_of _ (by decide +kernel)) ggX10_gift_X10_in
set_option maxRecDepth 20000 in
theorem ggX10_gift_X10_asked_ : GoodIn wsX10_gift wsX10_asked_ := goodIn_r _ [14, 15, 16, 17, 18, 19, 20, 21, 22, 23, 24, 25, 26, 27, 28, 29, 30, 31, 32, 33, 34, 35, 36, 37, 38, 39, 40, 41, 42, 43, 44, 45, 46, 47, 48, 49, 50, 51, 52, 53, 54, 55, 56] (by decide +kernel) (by decide +kernel)
set_option maxRecDepth 20000 in
theorem gX10_gift_X10_asked_ : GoodIn wsX10_gift (wsV RX10 127 RX10 yX10_asked_ wsX10_asked_) := goodIn_app (goodIn_of _ (by decide +kernel)) ggX10_gift_X10_asked_
theorem dX10_gift_0 : decode cX10_gift 0 = .ok (.aload_n 0, 1) := by decide +kernel
theorem dX10_gift_1 : decode cX10_gift 1 = .ok (.aload_n 0, 1) := by decide +kernel
theorem dX10_gift_2 : decode cX10_gift 2 = .ok (.iload_n 1, 1) := by decide +kernel
theorem dX10_gift_3 : decode cX10_gift 3 = .ok (.invokevirtual 131, 3) := by decide +kernel
theorem dX10_gift_6 : decode cX10_gift 6 = .ok (.iload_n 2, 1) := by decide +kernel
theorem dX10_gift_7 : decode cX10_gift 7 = .ok (.iconst 0, 1) := by decide +kernel
theorem dX10_gift_8 : decode cX10_gift 8 = .ok (.bipush 9, 2) := by decide +kernel
theorem dX10_gift_10 : decode cX10_gift 10 = .ok (.invokestatic 120, 3) := by decide +kernel
theorem dX10_gift_13 : decode cX10_gift 13 = .ok (.invokevirtual 127, 3) := by decide +kernel
theorem dX10_gift_16 : decode cX10_gift 16 = .ok (.ifCond .ne 5, 3) := by decide +kernel
theorem dX10_gift_19 : decode cX10_gift 19 = .ok (.iconst 0, 1) := by decide +kernel
theorem dX10_gift_20 : decode cX10_gift 20 = .ok (.ireturn, 1) := by decide +kernel
theorem dX10_gift_21 : decode cX10_gift 21 = .ok (.aload_n 0, 1) := by decide +kernel
theorem dX10_gift_22 : decode cX10_gift 22 = .ok (.getfield 27, 3) := by decide +kernel
theorem dX10_gift_25 : decode cX10_gift 25 = .ok (.iload_n 1, 1) := by decide +kernel
theorem dX10_gift_26 : decode cX10_gift 26 = .ok (.iaload, 1) := by decide +kernel
theorem dX10_gift_27 : decode cX10_gift 27 = .ok (.istore_n 3, 1) := by decide +kernel
theorem dX10_gift_28 : decode cX10_gift 28 = .ok (.aload_n 0, 1) := by decide +kernel
theorem dX10_gift_29 : decode cX10_gift 29 = .ok (.getfield 27, 3) := by decide +kernel
theorem dX10_gift_32 : decode cX10_gift 32 = .ok (.iload_n 1, 1) := by decide +kernel
theorem dX10_gift_33 : decode cX10_gift 33 = .ok (.iload_n 2, 1) := by decide +kernel
theorem dX10_gift_34 : decode cX10_gift 34 = .ok (.iastore, 1) := by decide +kernel
theorem dX10_gift_35 : decode cX10_gift 35 = .ok (.iload_n 3, 1) := by decide +kernel
theorem dX10_gift_36 : decode cX10_gift 36 = .ok (.ireturn, 1) := by decide +kernel
set_option maxRecDepth 20000 in
theorem ggX10_type_X10_in : GoodIn wsX10_type wsX10_in := goodIn_r _ [6] (by decide +kernel) (by decide +kernel)
set_option maxRecDepth 20000 in
theorem gX10_type_X10_in : GoodIn wsX10_type (va_wsS RX10 120 yX10_in wsX10_in) := goodIn_app (goodIn_of _ (by decide +kernel)) ggX10_type_X10_in
set_option maxRecDepth 20000 in
theorem ggX10_type_X10_asked_ : GoodIn wsX10_type wsX10_asked_ := goodIn_r _ [10, 11, 12, 13, 14, 15, 16, 17, 18, 19, 20, 21, 22, 23, 24, 25, 26, 27, 28, 29, 30, 31, 32, 33, 34, 35, 36, 37, 38, 39, 40, 41, 42, 43, 44, 45, 46, 47, 48, 49, 50, 51, 52] (by decide +kernel) (by decide +kernel)
set_option maxRecDepth 20000 in
theorem gX10_type_X10_asked_ : GoodIn wsX10_type (wsV RX10 127 RX10 yX10_asked_ wsX10_asked_) := goodIn_app (goodIn_of _ (by decide +kernel)) ggX10_type_X10_asked_
theorem dX10_type_0 : decode cX10_type 0 = .ok (.aload_n 0, 1) := by decide +kernel
theorem dX10_type_1 : decode cX10_type 1 = .ok (.iload_n 1, 1) := by decide +kernel
theorem dX10_type_2 : decode cX10_type 2 = .ok (.bipush 32, 2) := by decide +kernel
theorem dX10_type_4 : decode cX10_type 4 = .ok (.bipush 126, 2) := by decide +kernel
theorem dX10_type_6 : decode cX10_type 6 = .ok (.invokestatic 120, 3) := by decide +kernel
theorem dX10_type_9 : decode cX10_type 9 = .ok (.aload_n 0, 1) := by decide +kernel
theorem dX10_type_10 : decode cX10_type 10 = .ok (.getfield 135, 3) := by decide +kernel
theorem dX10_type_13 : decode cX10_type 13 = .ok (.bipush 40, 2) := by decide +kernel
theorem dX10_type_15 : decode cX10_type 15 = .ok (.if_icmp .ge 7, 3) := by decide +kernel
theorem dX10_type_18 : decode cX10_type 18 = .ok (.iconst 1, 1) := by decide +kernel
theorem dX10_type_19 : decode cX10_type 19 = .ok (.goto 4, 3) := by decide +kernel
theorem dX10_type_22 : decode cX10_type 22 = .ok (.iconst 0, 1) := by decide +kernel
theorem dX10_type_23 : decode cX10_type 23 = .ok (.invokevirtual 127, 3) := by decide +kernel
theorem dX10_type_26 : decode cX10_type 26 = .ok (.ifCond .ne 5, 3) := by decide +kernel
theorem dX10_type_29 : decode cX10_type 29 = .ok (.iconst 0, 1) := by decide +kernel
theorem dX10_type_30 : decode cX10_type 30 = .ok (.ireturn, 1) := by decide +kernel
theorem dX10_type_31 : decode cX10_type 31 = .ok (.aload_n 0, 1) := by decide +kernel
theorem dX10_type_32 : decode cX10_type 32 = .ok (.getfield 7, 3) := by decide +kernel
theorem dX10_type_35 : decode cX10_type 35 = .ok (.aload_n 0, 1) := by decide +kernel
theorem dX10_type_36 : decode cX10_type 36 = .ok (.getfield 135, 3) := by decide +kernel
theorem dX10_type_39 : decode cX10_type 39 = .ok (.iload_n 1, 1) := by decide +kernel
theorem dX10_type_40 : decode cX10_type 40 = .ok (.iastore, 1) := by decide +kernel
theorem dX10_type_41 : decode cX10_type 41 = .ok (.aload_n 0, 1) := by decide +kernel
theorem dX10_type_42 : decode cX10_type 42 = .ok (.dup, 1) := by decide +kernel
theorem dX10_type_43 : decode cX10_type 43 = .ok (.getfield 135, 3) := by decide +kernel
theorem dX10_type_46 : decode cX10_type 46 = .ok (.iconst 1, 1) := by decide +kernel
theorem dX10_type_47 : decode cX10_type 47 = .ok (.iadd, 1) := by decide +kernel
theorem dX10_type_48 : decode cX10_type 48 = .ok (.putfield 135, 3) := by decide +kernel
theorem dX10_type_51 : decode cX10_type 51 = .ok (.aload_n 0, 1) := by decide +kernel
theorem dX10_type_52 : decode cX10_type 52 = .ok (.getfield 135, 3) := by decide +kernel
theorem dX10_type_55 : decode cX10_type 55 = .ok (.ireturn, 1) := by decide +kernel
set_option maxRecDepth 20000 in
theorem ggX10_reads_X10_in : GoodIn wsX10_reads wsX10_in := goodIn_r _ [7] (by decide +kernel) (by decide +kernel)
set_option maxRecDepth 20000 in
theorem gX10_reads_X10_in : GoodIn wsX10_reads (va_wsS RX10 120 yX10_in wsX10_in) := goodIn_app (goodIn_of _ (by decide +kernel)) ggX10_reads_X10_in
theorem dX10_reads_0 : decode cX10_reads 0 = .ok (.iconst 0, 1) := by decide +kernel
theorem dX10_reads_1 : decode cX10_reads 1 = .ok (.istore_n 1, 1) := by decide +kernel
theorem dX10_reads_2 : decode cX10_reads 2 = .ok (.iconst 0, 1) := by decide +kernel
theorem dX10_reads_3 : decode cX10_reads 3 = .ok (.istore_n 2, 1) := by decide +kernel
theorem dX10_reads_4 : decode cX10_reads 4 = .ok (.iconst 0, 1) := by decide +kernel
theorem dX10_reads_5 : decode cX10_reads 5 = .ok (.istore_n 3, 1) := by decide +kernel
theorem dX10_reads_6 : decode cX10_reads 6 = .ok (.iconst 0, 1) := by decide +kernel
theorem dX10_reads_7 : decode cX10_reads 7 = .ok (.istore 4, 2) := by decide +kernel
theorem dX10_reads_9 : decode cX10_reads 9 = .ok (.iload 4, 2) := by decide +kernel
theorem dX10_reads_11 : decode cX10_reads 11 = .ok (.aload_n 0, 1) := by decide +kernel
theorem dX10_reads_12 : decode cX10_reads 12 = .ok (.getfield 135, 3) := by decide +kernel
theorem dX10_reads_15 : decode cX10_reads 15 = .ok (.if_icmp .ge 323, 3) := by decide +kernel
theorem dX10_reads_18 : decode cX10_reads 18 = .ok (.aload_n 0, 1) := by decide +kernel
theorem dX10_reads_19 : decode cX10_reads 19 = .ok (.getfield 7, 3) := by decide +kernel
theorem dX10_reads_22 : decode cX10_reads 22 = .ok (.iload 4, 2) := by decide +kernel
theorem dX10_reads_24 : decode cX10_reads 24 = .ok (.iaload, 1) := by decide +kernel
theorem dX10_reads_25 : decode cX10_reads 25 = .ok (.istore 5, 2) := by decide +kernel
theorem dX10_reads_27 : decode cX10_reads 27 = .ok (.iload 5, 2) := by decide +kernel
theorem dX10_reads_29 : decode cX10_reads 29 = .ok (.bipush 97, 2) := by decide +kernel
theorem dX10_reads_31 : decode cX10_reads 31 = .ok (.bipush 104, 2) := by decide +kernel
theorem dX10_reads_33 : decode cX10_reads 33 = .ok (.invokestatic 120, 3) := by decide +kernel
theorem dX10_reads_36 : decode cX10_reads 36 = .ok (.istore 6, 2) := by decide +kernel
theorem dX10_reads_38 : decode cX10_reads 38 = .ok (.iload 5, 2) := by decide +kernel
theorem dX10_reads_40 : decode cX10_reads 40 = .ok (.bipush 48, 2) := by decide +kernel
theorem dX10_reads_42 : decode cX10_reads 42 = .ok (.bipush 57, 2) := by decide +kernel
theorem dX10_reads_44 : decode cX10_reads 44 = .ok (.invokestatic 120, 3) := by decide +kernel
theorem dX10_reads_47 : decode cX10_reads 47 = .ok (.istore 7, 2) := by decide +kernel
theorem dX10_reads_49 : decode cX10_reads 49 = .ok (.iload_n 3, 1) := by decide +kernel
theorem dX10_reads_50 : decode cX10_reads 50 = .ok (.iconst 2, 1) := by decide +kernel
theorem dX10_reads_51 : decode cX10_reads 51 = .ok (.if_icmp .ge 8, 3) := by decide +kernel
theorem dX10_reads_54 : decode cX10_reads 54 = .ok (.iload 6, 2) := by decide +kernel
theorem dX10_reads_56 : decode cX10_reads 56 = .ok (.ifCond .ne 20, 3) := by decide +kernel
theorem dX10_reads_59 : decode cX10_reads 59 = .ok (.iload_n 3, 1) := by decide +kernel
theorem dX10_reads_60 : decode cX10_reads 60 = .ok (.iconst 2, 1) := by decide +kernel
theorem dX10_reads_61 : decode cX10_reads 61 = .ok (.if_icmp .ge 77, 3) := by decide +kernel
theorem dX10_reads_64 : decode cX10_reads 64 = .ok (.iload 5, 2) := by decide +kernel
theorem dX10_reads_66 : decode cX10_reads 66 = .ok (.bipush 40, 2) := by decide +kernel
theorem dX10_reads_68 : decode cX10_reads 68 = .ok (.if_icmp .ne 70, 3) := by decide +kernel
theorem dX10_reads_71 : decode cX10_reads 71 = .ok (.iload_n 2, 1) := by decide +kernel
theorem dX10_reads_72 : decode cX10_reads 72 = .ok (.iconst 4, 1) := by decide +kernel
theorem dX10_reads_73 : decode cX10_reads 73 = .ok (.if_icmp .ge 65, 3) := by decide +kernel
theorem dX10_reads_76 : decode cX10_reads 76 = .ok (.aload_n 0, 1) := by decide +kernel
theorem dX10_reads_77 : decode cX10_reads 77 = .ok (.getfield 111, 3) := by decide +kernel
theorem dX10_reads_80 : decode cX10_reads 80 = .ok (.iload_n 1, 1) := by decide +kernel
theorem dX10_reads_81 : decode cX10_reads 81 = .ok (.bipush 49, 2) := by decide +kernel
theorem dX10_reads_83 : decode cX10_reads 83 = .ok (.iastore, 1) := by decide +kernel
theorem dX10_reads_84 : decode cX10_reads 84 = .ok (.iload_n 1, 1) := by decide +kernel
theorem dX10_reads_85 : decode cX10_reads 85 = .ok (.iload_n 3, 1) := by decide +kernel
theorem dX10_reads_86 : decode cX10_reads 86 = .ok (.ifCond .ne 7, 3) := by decide +kernel
theorem dX10_reads_89 : decode cX10_reads 89 = .ok (.iconst 1, 1) := by decide +kernel
theorem dX10_reads_90 : decode cX10_reads 90 = .ok (.goto 4, 3) := by decide +kernel
theorem dX10_reads_93 : decode cX10_reads 93 = .ok (.iconst 0, 1) := by decide +kernel
theorem dX10_reads_94 : decode cX10_reads 94 = .ok (.iadd, 1) := by decide +kernel
theorem dX10_reads_95 : decode cX10_reads 95 = .ok (.istore_n 1, 1) := by decide +kernel
theorem dX10_reads_96 : decode cX10_reads 96 = .ok (.aload_n 0, 1) := by decide +kernel
theorem dX10_reads_97 : decode cX10_reads 97 = .ok (.getfield 111, 3) := by decide +kernel
theorem dX10_reads_100 : decode cX10_reads 100 = .ok (.iload_n 1, 1) := by decide +kernel
theorem dX10_reads_101 : decode cX10_reads 101 = .ok (.iload 5, 2) := by decide +kernel
theorem dX10_reads_103 : decode cX10_reads 103 = .ok (.iastore, 1) := by decide +kernel
theorem dX10_reads_104 : decode cX10_reads 104 = .ok (.iinc 1 1, 3) := by decide +kernel
theorem dX10_reads_107 : decode cX10_reads 107 = .ok (.iload_n 2, 1) := by decide +kernel
theorem dX10_reads_108 : decode cX10_reads 108 = .ok (.iload 5, 2) := by decide +kernel
theorem dX10_reads_110 : decode cX10_reads 110 = .ok (.bipush 40, 2) := by decide +kernel
theorem dX10_reads_112 : decode cX10_reads 112 = .ok (.if_icmp .ne 7, 3) := by decide +kernel
theorem dX10_reads_115 : decode cX10_reads 115 = .ok (.iconst 1, 1) := by decide +kernel
theorem dX10_reads_116 : decode cX10_reads 116 = .ok (.goto 4, 3) := by decide +kernel
theorem dX10_reads_119 : decode cX10_reads 119 = .ok (.iconst 0, 1) := by decide +kernel
theorem dX10_reads_120 : decode cX10_reads 120 = .ok (.iadd, 1) := by decide +kernel
theorem dX10_reads_121 : decode cX10_reads 121 = .ok (.istore_n 2, 1) := by decide +kernel
theorem dX10_reads_122 : decode cX10_reads 122 = .ok (.iload 5, 2) := by decide +kernel
theorem dX10_reads_124 : decode cX10_reads 124 = .ok (.bipush 40, 2) := by decide +kernel
theorem dX10_reads_126 : decode cX10_reads 126 = .ok (.if_icmp .ne 7, 3) := by decide +kernel
theorem dX10_reads_129 : decode cX10_reads 129 = .ok (.iconst 0, 1) := by decide +kernel
theorem dX10_reads_130 : decode cX10_reads 130 = .ok (.goto 4, 3) := by decide +kernel
theorem dX10_reads_133 : decode cX10_reads 133 = .ok (.iconst 2, 1) := by decide +kernel
theorem dX10_reads_134 : decode cX10_reads 134 = .ok (.istore_n 3, 1) := by decide +kernel
theorem dX10_reads_135 : decode cX10_reads 135 = .ok (.goto 197, 3) := by decide +kernel
theorem dX10_reads_138 : decode cX10_reads 138 = .ok (.iload_n 3, 1) := by decide +kernel
theorem dX10_reads_139 : decode cX10_reads 139 = .ok (.ifCond .ne 31, 3) := by decide +kernel
theorem dX10_reads_142 : decode cX10_reads 142 = .ok (.iload 7, 2) := by decide +kernel
theorem dX10_reads_144 : decode cX10_reads 144 = .ok (.ifCond .eq 26, 3) := by decide +kernel
theorem dX10_reads_147 : decode cX10_reads 147 = .ok (.iload 5, 2) := by decide +kernel
theorem dX10_reads_149 : decode cX10_reads 149 = .ok (.bipush 48, 2) := by decide +kernel
theorem dX10_reads_151 : decode cX10_reads 151 = .ok (.if_icmp .eq 19, 3) := by decide +kernel
theorem dX10_reads_154 : decode cX10_reads 154 = .ok (.aload_n 0, 1) := by decide +kernel
theorem dX10_reads_155 : decode cX10_reads 155 = .ok (.getfield 111, 3) := by decide +kernel
theorem dX10_reads_158 : decode cX10_reads 158 = .ok (.iload_n 1, 1) := by decide +kernel
theorem dX10_reads_159 : decode cX10_reads 159 = .ok (.iload 5, 2) := by decide +kernel
theorem dX10_reads_161 : decode cX10_reads 161 = .ok (.iastore, 1) := by decide +kernel
theorem dX10_reads_162 : decode cX10_reads 162 = .ok (.iinc 1 1, 3) := by decide +kernel
theorem dX10_reads_165 : decode cX10_reads 165 = .ok (.iconst 1, 1) := by decide +kernel
theorem dX10_reads_166 : decode cX10_reads 166 = .ok (.istore_n 3, 1) := by decide +kernel
theorem dX10_reads_167 : decode cX10_reads 167 = .ok (.goto 165, 3) := by decide +kernel
theorem dX10_reads_170 : decode cX10_reads 170 = .ok (.iload_n 3, 1) := by decide +kernel
theorem dX10_reads_171 : decode cX10_reads 171 = .ok (.iconst 2, 1) := by decide +kernel
theorem dX10_reads_172 : decode cX10_reads 172 = .ok (.if_icmp .ne 59, 3) := by decide +kernel
theorem dX10_reads_175 : decode cX10_reads 175 = .ok (.iload 5, 2) := by decide +kernel
theorem dX10_reads_177 : decode cX10_reads 177 = .ok (.bipush 43, 2) := by decide +kernel
theorem dX10_reads_179 : decode cX10_reads 179 = .ok (.if_icmp .eq 25, 3) := by decide +kernel
theorem dX10_reads_182 : decode cX10_reads 182 = .ok (.iload_n 2, 1) := by decide +kernel
theorem dX10_reads_183 : decode cX10_reads 183 = .ok (.ifCond .le 10, 3) := by decide +kernel
theorem dX10_reads_186 : decode cX10_reads 186 = .ok (.iload 5, 2) := by decide +kernel
theorem dX10_reads_188 : decode cX10_reads 188 = .ok (.bipush 124, 2) := by decide +kernel
theorem dX10_reads_190 : decode cX10_reads 190 = .ok (.if_icmp .eq 14, 3) := by decide +kernel
theorem dX10_reads_193 : decode cX10_reads 193 = .ok (.iload_n 2, 1) := by decide +kernel
theorem dX10_reads_194 : decode cX10_reads 194 = .ok (.ifCond .ne 37, 3) := by decide +kernel
theorem dX10_reads_197 : decode cX10_reads 197 = .ok (.iload 5, 2) := by decide +kernel
theorem dX10_reads_199 : decode cX10_reads 199 = .ok (.bipush 60, 2) := by decide +kernel
theorem dX10_reads_201 : decode cX10_reads 201 = .ok (.if_icmp .ne 30, 3) := by decide +kernel
theorem dX10_reads_204 : decode cX10_reads 204 = .ok (.aload_n 0, 1) := by decide +kernel
theorem dX10_reads_205 : decode cX10_reads 205 = .ok (.getfield 111, 3) := by decide +kernel
theorem dX10_reads_208 : decode cX10_reads 208 = .ok (.iload_n 1, 1) := by decide +kernel
theorem dX10_reads_209 : decode cX10_reads 209 = .ok (.iload 5, 2) := by decide +kernel
theorem dX10_reads_211 : decode cX10_reads 211 = .ok (.iastore, 1) := by decide +kernel
theorem dX10_reads_212 : decode cX10_reads 212 = .ok (.iinc 1 1, 3) := by decide +kernel
theorem dX10_reads_215 : decode cX10_reads 215 = .ok (.iload 5, 2) := by decide +kernel
theorem dX10_reads_217 : decode cX10_reads 217 = .ok (.bipush 60, 2) := by decide +kernel
theorem dX10_reads_219 : decode cX10_reads 219 = .ok (.if_icmp .ne 7, 3) := by decide +kernel
theorem dX10_reads_222 : decode cX10_reads 222 = .ok (.iconst 3, 1) := by decide +kernel
theorem dX10_reads_223 : decode cX10_reads 223 = .ok (.goto 4, 3) := by decide +kernel
theorem dX10_reads_226 : decode cX10_reads 226 = .ok (.iconst 0, 1) := by decide +kernel
theorem dX10_reads_227 : decode cX10_reads 227 = .ok (.istore_n 3, 1) := by decide +kernel
theorem dX10_reads_228 : decode cX10_reads 228 = .ok (.goto 104, 3) := by decide +kernel
theorem dX10_reads_231 : decode cX10_reads 231 = .ok (.iload_n 3, 1) := by decide +kernel
theorem dX10_reads_232 : decode cX10_reads 232 = .ok (.iconst 2, 1) := by decide +kernel
theorem dX10_reads_233 : decode cX10_reads 233 = .ok (.if_icmp .ne 31, 3) := by decide +kernel
theorem dX10_reads_236 : decode cX10_reads 236 = .ok (.iload_n 2, 1) := by decide +kernel
theorem dX10_reads_237 : decode cX10_reads 237 = .ok (.ifCond .le 27, 3) := by decide +kernel
theorem dX10_reads_240 : decode cX10_reads 240 = .ok (.iload 5, 2) := by decide +kernel
theorem dX10_reads_242 : decode cX10_reads 242 = .ok (.bipush 41, 2) := by decide +kernel
theorem dX10_reads_244 : decode cX10_reads 244 = .ok (.if_icmp .ne 20, 3) := by decide +kernel
theorem dX10_reads_247 : decode cX10_reads 247 = .ok (.aload_n 0, 1) := by decide +kernel
theorem dX10_reads_248 : decode cX10_reads 248 = .ok (.getfield 111, 3) := by decide +kernel
theorem dX10_reads_251 : decode cX10_reads 251 = .ok (.iload_n 1, 1) := by decide +kernel
theorem dX10_reads_252 : decode cX10_reads 252 = .ok (.iload 5, 2) := by decide +kernel
theorem dX10_reads_254 : decode cX10_reads 254 = .ok (.iastore, 1) := by decide +kernel
theorem dX10_reads_255 : decode cX10_reads 255 = .ok (.iinc 1 1, 3) := by decide +kernel
theorem dX10_reads_258 : decode cX10_reads 258 = .ok (.iinc 2 (-1), 3) := by decide +kernel
theorem dX10_reads_261 : decode cX10_reads 261 = .ok (.goto 71, 3) := by decide +kernel
theorem dX10_reads_264 : decode cX10_reads 264 = .ok (.iload_n 3, 1) := by decide +kernel
theorem dX10_reads_265 : decode cX10_reads 265 = .ok (.iconst 3, 1) := by decide +kernel
theorem dX10_reads_266 : decode cX10_reads 266 = .ok (.if_icmp .ne 8, 3) := by decide +kernel
theorem dX10_reads_269 : decode cX10_reads 269 = .ok (.iload 7, 2) := by decide +kernel
theorem dX10_reads_271 : decode cX10_reads 271 = .ok (.ifCond .ne 13, 3) := by decide +kernel
theorem dX10_reads_274 : decode cX10_reads 274 = .ok (.iload_n 3, 1) := by decide +kernel
theorem dX10_reads_275 : decode cX10_reads 275 = .ok (.iconst 4, 1) := by decide +kernel
theorem dX10_reads_276 : decode cX10_reads 276 = .ok (.if_icmp .ne 51, 3) := by decide +kernel
theorem dX10_reads_279 : decode cX10_reads 279 = .ok (.iload 7, 2) := by decide +kernel
theorem dX10_reads_281 : decode cX10_reads 281 = .ok (.ifCond .eq 46, 3) := by decide +kernel
theorem dX10_reads_284 : decode cX10_reads 284 = .ok (.iload_n 1, 1) := by decide +kernel
theorem dX10_reads_285 : decode cX10_reads 285 = .ok (.iload_n 3, 1) := by decide +kernel
theorem dX10_reads_286 : decode cX10_reads 286 = .ok (.iconst 4, 1) := by decide +kernel
theorem dX10_reads_287 : decode cX10_reads 287 = .ok (.if_icmp .ne 20, 3) := by decide +kernel
theorem dX10_reads_290 : decode cX10_reads 290 = .ok (.aload_n 0, 1) := by decide +kernel
theorem dX10_reads_291 : decode cX10_reads 291 = .ok (.getfield 111, 3) := by decide +kernel
theorem dX10_reads_294 : decode cX10_reads 294 = .ok (.iload_n 1, 1) := by decide +kernel
theorem dX10_reads_295 : decode cX10_reads 295 = .ok (.iconst 1, 1) := by decide +kernel
theorem dX10_reads_296 : decode cX10_reads 296 = .ok (.isub, 1) := by decide +kernel
theorem dX10_reads_297 : decode cX10_reads 297 = .ok (.iaload, 1) := by decide +kernel
theorem dX10_reads_298 : decode cX10_reads 298 = .ok (.bipush 48, 2) := by decide +kernel
theorem dX10_reads_300 : decode cX10_reads 300 = .ok (.if_icmp .ne 7, 3) := by decide +kernel
theorem dX10_reads_303 : decode cX10_reads 303 = .ok (.iconst 1, 1) := by decide +kernel
theorem dX10_reads_304 : decode cX10_reads 304 = .ok (.goto 4, 3) := by decide +kernel
theorem dX10_reads_307 : decode cX10_reads 307 = .ok (.iconst 0, 1) := by decide +kernel
theorem dX10_reads_308 : decode cX10_reads 308 = .ok (.isub, 1) := by decide +kernel
theorem dX10_reads_309 : decode cX10_reads 309 = .ok (.istore_n 1, 1) := by decide +kernel
theorem dX10_reads_310 : decode cX10_reads 310 = .ok (.aload_n 0, 1) := by decide +kernel
theorem dX10_reads_311 : decode cX10_reads 311 = .ok (.getfield 111, 3) := by decide +kernel
theorem dX10_reads_314 : decode cX10_reads 314 = .ok (.iload_n 1, 1) := by decide +kernel
theorem dX10_reads_315 : decode cX10_reads 315 = .ok (.iload 5, 2) := by decide +kernel
theorem dX10_reads_317 : decode cX10_reads 317 = .ok (.iastore, 1) := by decide +kernel
theorem dX10_reads_318 : decode cX10_reads 318 = .ok (.iinc 1 1, 3) := by decide +kernel
theorem dX10_reads_321 : decode cX10_reads 321 = .ok (.iinc 3 1, 3) := by decide +kernel
theorem dX10_reads_324 : decode cX10_reads 324 = .ok (.goto 8, 3) := by decide +kernel
theorem dX10_reads_327 : decode cX10_reads 327 = .ok (.iconst (-1), 1) := by decide +kernel
theorem dX10_reads_328 : decode cX10_reads 328 = .ok (.iload 4, 2) := by decide +kernel
theorem dX10_reads_330 : decode cX10_reads 330 = .ok (.isub, 1) := by decide +kernel
theorem dX10_reads_331 : decode cX10_reads 331 = .ok (.ireturn, 1) := by decide +kernel
theorem dX10_reads_332 : decode cX10_reads 332 = .ok (.iinc 4 1, 3) := by decide +kernel
theorem dX10_reads_335 : decode cX10_reads 335 = .ok (.goto (-326), 3) := by decide +kernel
theorem dX10_reads_338 : decode cX10_reads 338 = .ok (.iload_n 3, 1) := by decide +kernel
theorem dX10_reads_339 : decode cX10_reads 339 = .ok (.iconst 2, 1) := by decide +kernel
theorem dX10_reads_340 : decode cX10_reads 340 = .ok (.if_icmp .ne 7, 3) := by decide +kernel
theorem dX10_reads_343 : decode cX10_reads 343 = .ok (.iload_n 2, 1) := by decide +kernel
theorem dX10_reads_344 : decode cX10_reads 344 = .ok (.ifCond .eq 8, 3) := by decide +kernel
theorem dX10_reads_347 : decode cX10_reads 347 = .ok (.iload_n 3, 1) := by decide +kernel
theorem dX10_reads_348 : decode cX10_reads 348 = .ok (.iconst 3, 1) := by decide +kernel
theorem dX10_reads_349 : decode cX10_reads 349 = .ok (.if_icmp .le 7, 3) := by decide +kernel
theorem dX10_reads_352 : decode cX10_reads 352 = .ok (.iload_n 1, 1) := by decide +kernel
theorem dX10_reads_353 : decode cX10_reads 353 = .ok (.goto 9, 3) := by decide +kernel
theorem dX10_reads_356 : decode cX10_reads 356 = .ok (.iconst (-1), 1) := by decide +kernel
theorem dX10_reads_357 : decode cX10_reads 357 = .ok (.aload_n 0, 1) := by decide +kernel
theorem dX10_reads_358 : decode cX10_reads 358 = .ok (.getfield 135, 3) := by decide +kernel
theorem dX10_reads_361 : decode cX10_reads 361 = .ok (.isub, 1) := by decide +kernel
theorem dX10_reads_362 : decode cX10_reads 362 = .ok (.ireturn, 1) := by decide +kernel
set_option maxRecDepth 20000 in
theorem ggX10_scheme_X10_isQuestion : GoodIn wsX10_scheme wsX10_isQuestion := goodIn_r _ [9, 10, 11, 8, 12] (by decide +kernel) (by decide +kernel)
set_option maxRecDepth 20000 in
theorem gX10_scheme_X10_isQuestion : GoodIn wsX10_scheme (va_wsS RX10 138 yX10_isQuestion wsX10_isQuestion) := goodIn_app (goodIn_of _ (by decide +kernel)) ggX10_scheme_X10_isQuestion
set_option maxRecDepth 20000 in
theorem ggX10_scheme_X10_asked_ : GoodIn wsX10_scheme wsX10_asked_ := goodIn_r _ [16, 17, 23, 24, 25, 26, 27, 28, 29, 30, 31, 32, 33, 34, 35, 36, 37, 38, 39, 40, 41, 42, 43, 44, 45, 46, 47, 48, 49, 50, 51, 52, 53, 54, 55, 56, 57, 58, 59, 60, 61, 62, 63] (by decide +kernel) (by decide +kernel)
set_option maxRecDepth 20000 in
theorem gX10_scheme_X10_asked_ : GoodIn wsX10_scheme (wsV RX10 127 RX10 yX10_asked_ wsX10_asked_) := goodIn_app (goodIn_of _ (by decide +kernel)) ggX10_scheme_X10_asked_
set_option maxRecDepth 20000 in
theorem ggX10_scheme_X10_reads : GoodIn wsX10_scheme wsX10_reads := goodIn_r _ [21, 2, 22, 4, 10, 11, 8, 12, 23, 24, 25, 26, 27, 28, 29, 30, 31, 32, 33, 34, 35, 36, 37, 38, 39, 40, 41, 42, 43, 44, 45, 46, 47, 48, 49, 50, 51, 52, 53, 54, 55, 56, 57, 58, 59, 60, 61, 62, 63] (by decide +kernel) (by decide +kernel)
set_option maxRecDepth 20000 in
theorem gX10_scheme_X10_reads : GoodIn wsX10_scheme (wsV RX10 141 RX10 yX10_reads wsX10_reads) := goodIn_app (goodIn_of _ (by decide +kernel)) ggX10_scheme_X10_reads
set_option maxRecDepth 20000 in
theorem ggX10_scheme_X10_in : GoodIn wsX10_scheme wsX10_in := goodIn_r _ [12] (by decide +kernel) (by decide +kernel)
set_option maxRecDepth 20000 in
theorem gX10_scheme_X10_in : GoodIn wsX10_scheme (va_wsS RX10 120 yX10_in wsX10_in) := goodIn_app (goodIn_of _ (by decide +kernel)) ggX10_scheme_X10_in
theorem dX10_scheme_0 : decode cX10_scheme 0 = .ok (.iload_n 1, 1) := by decide +kernel
theorem dX10_scheme_1 : decode cX10_scheme 1 = .ok (.invokestatic 138, 3) := by decide +kernel
theorem dX10_scheme_4 : decode cX10_scheme 4 = .ok (.istore_n 2, 1) := by decide +kernel
theorem dX10_scheme_5 : decode cX10_scheme 5 = .ok (.aload_n 0, 1) := by decide +kernel
theorem dX10_scheme_6 : decode cX10_scheme 6 = .ok (.iload_n 2, 1) := by decide +kernel
theorem dX10_scheme_7 : decode cX10_scheme 7 = .ok (.iload_n 2, 1) := by decide +kernel
theorem dX10_scheme_8 : decode cX10_scheme 8 = .ok (.ifCond .eq 18, 3) := by decide +kernel
theorem dX10_scheme_11 : decode cX10_scheme 11 = .ok (.aload_n 0, 1) := by decide +kernel
theorem dX10_scheme_12 : decode cX10_scheme 12 = .ok (.getfield 39, 3) := by decide +kernel
theorem dX10_scheme_15 : decode cX10_scheme 15 = .ok (.iload_n 1, 1) := by decide +kernel
theorem dX10_scheme_16 : decode cX10_scheme 16 = .ok (.iaload, 1) := by decide +kernel
theorem dX10_scheme_17 : decode cX10_scheme 17 = .ok (.bipush 6, 2) := by decide +kernel
theorem dX10_scheme_19 : decode cX10_scheme 19 = .ok (.if_icmp .ge 7, 3) := by decide +kernel
theorem dX10_scheme_22 : decode cX10_scheme 22 = .ok (.iconst 1, 1) := by decide +kernel
theorem dX10_scheme_23 : decode cX10_scheme 23 = .ok (.goto 4, 3) := by decide +kernel
theorem dX10_scheme_26 : decode cX10_scheme 26 = .ok (.iconst 0, 1) := by decide +kernel
theorem dX10_scheme_27 : decode cX10_scheme 27 = .ok (.invokevirtual 127, 3) := by decide +kernel
theorem dX10_scheme_30 : decode cX10_scheme 30 = .ok (.ifCond .ne 5, 3) := by decide +kernel
theorem dX10_scheme_33 : decode cX10_scheme 33 = .ok (.iconst 0, 1) := by decide +kernel
theorem dX10_scheme_34 : decode cX10_scheme 34 = .ok (.ireturn, 1) := by decide +kernel
theorem dX10_scheme_35 : decode cX10_scheme 35 = .ok (.aload_n 0, 1) := by decide +kernel
theorem dX10_scheme_36 : decode cX10_scheme 36 = .ok (.invokevirtual 141, 3) := by decide +kernel
theorem dX10_scheme_39 : decode cX10_scheme 39 = .ok (.istore_n 3, 1) := by decide +kernel
theorem dX10_scheme_40 : decode cX10_scheme 40 = .ok (.aload_n 0, 1) := by decide +kernel
theorem dX10_scheme_41 : decode cX10_scheme 41 = .ok (.iconst 0, 1) := by decide +kernel
theorem dX10_scheme_42 : decode cX10_scheme 42 = .ok (.putfield 135, 3) := by decide +kernel
theorem dX10_scheme_45 : decode cX10_scheme 45 = .ok (.iload_n 3, 1) := by decide +kernel
theorem dX10_scheme_46 : decode cX10_scheme 46 = .ok (.ifCond .ge 5, 3) := by decide +kernel
theorem dX10_scheme_49 : decode cX10_scheme 49 = .ok (.iload_n 3, 1) := by decide +kernel
theorem dX10_scheme_50 : decode cX10_scheme 50 = .ok (.ireturn, 1) := by decide +kernel
theorem dX10_scheme_51 : decode cX10_scheme 51 = .ok (.bipush 6, 2) := by decide +kernel
theorem dX10_scheme_53 : decode cX10_scheme 53 = .ok (.iload_n 1, 1) := by decide +kernel
theorem dX10_scheme_54 : decode cX10_scheme 54 = .ok (.imul, 1) := by decide +kernel
theorem dX10_scheme_55 : decode cX10_scheme 55 = .ok (.aload_n 0, 1) := by decide +kernel
theorem dX10_scheme_56 : decode cX10_scheme 56 = .ok (.getfield 39, 3) := by decide +kernel
theorem dX10_scheme_59 : decode cX10_scheme 59 = .ok (.iload_n 1, 1) := by decide +kernel
theorem dX10_scheme_60 : decode cX10_scheme 60 = .ok (.iaload, 1) := by decide +kernel
theorem dX10_scheme_61 : decode cX10_scheme 61 = .ok (.iadd, 1) := by decide +kernel
theorem dX10_scheme_62 : decode cX10_scheme 62 = .ok (.istore 4, 2) := by decide +kernel
theorem dX10_scheme_64 : decode cX10_scheme 64 = .ok (.aload_n 0, 1) := by decide +kernel
theorem dX10_scheme_65 : decode cX10_scheme 65 = .ok (.getfield 45, 3) := by decide +kernel
theorem dX10_scheme_68 : decode cX10_scheme 68 = .ok (.iload 4, 2) := by decide +kernel
theorem dX10_scheme_70 : decode cX10_scheme 70 = .ok (.iconst 0, 1) := by decide +kernel
theorem dX10_scheme_71 : decode cX10_scheme 71 = .ok (.iastore, 1) := by decide +kernel
theorem dX10_scheme_72 : decode cX10_scheme 72 = .ok (.iconst 0, 1) := by decide +kernel
theorem dX10_scheme_73 : decode cX10_scheme 73 = .ok (.istore 5, 2) := by decide +kernel
theorem dX10_scheme_75 : decode cX10_scheme 75 = .ok (.iload 5, 2) := by decide +kernel
theorem dX10_scheme_77 : decode cX10_scheme 77 = .ok (.bipush 90, 2) := by decide +kernel
theorem dX10_scheme_79 : decode cX10_scheme 79 = .ok (.if_icmp .ge 76, 3) := by decide +kernel
theorem dX10_scheme_82 : decode cX10_scheme 82 = .ok (.iload 5, 2) := by decide +kernel
theorem dX10_scheme_84 : decode cX10_scheme 84 = .ok (.iload_n 3, 1) := by decide +kernel
theorem dX10_scheme_85 : decode cX10_scheme 85 = .ok (.if_icmp .ge 13, 3) := by decide +kernel
theorem dX10_scheme_88 : decode cX10_scheme 88 = .ok (.aload_n 0, 1) := by decide +kernel
theorem dX10_scheme_89 : decode cX10_scheme 89 = .ok (.getfield 111, 3) := by decide +kernel
theorem dX10_scheme_92 : decode cX10_scheme 92 = .ok (.iload 5, 2) := by decide +kernel
theorem dX10_scheme_94 : decode cX10_scheme 94 = .ok (.iaload, 1) := by decide +kernel
theorem dX10_scheme_95 : decode cX10_scheme 95 = .ok (.goto 4, 3) := by decide +kernel
theorem dX10_scheme_98 : decode cX10_scheme 98 = .ok (.iconst 0, 1) := by decide +kernel
theorem dX10_scheme_99 : decode cX10_scheme 99 = .ok (.istore 6, 2) := by decide +kernel
theorem dX10_scheme_101 : decode cX10_scheme 101 = .ok (.aload_n 0, 1) := by decide +kernel
theorem dX10_scheme_102 : decode cX10_scheme 102 = .ok (.getfield 42, 3) := by decide +kernel
theorem dX10_scheme_105 : decode cX10_scheme 105 = .ok (.bipush 90, 2) := by decide +kernel
theorem dX10_scheme_107 : decode cX10_scheme 107 = .ok (.iload 4, 2) := by decide +kernel
theorem dX10_scheme_109 : decode cX10_scheme 109 = .ok (.imul, 1) := by decide +kernel
theorem dX10_scheme_110 : decode cX10_scheme 110 = .ok (.iload 5, 2) := by decide +kernel
theorem dX10_scheme_112 : decode cX10_scheme 112 = .ok (.iadd, 1) := by decide +kernel
theorem dX10_scheme_113 : decode cX10_scheme 113 = .ok (.iload 6, 2) := by decide +kernel
theorem dX10_scheme_115 : decode cX10_scheme 115 = .ok (.iastore, 1) := by decide +kernel
theorem dX10_scheme_116 : decode cX10_scheme 116 = .ok (.aload_n 0, 1) := by decide +kernel
theorem dX10_scheme_117 : decode cX10_scheme 117 = .ok (.getfield 45, 3) := by decide +kernel
theorem dX10_scheme_120 : decode cX10_scheme 120 = .ok (.iload 4, 2) := by decide +kernel
theorem dX10_scheme_122 : decode cX10_scheme 122 = .ok (.dup2, 1) := by decide +kernel
theorem dX10_scheme_123 : decode cX10_scheme 123 = .ok (.iaload, 1) := by decide +kernel
theorem dX10_scheme_124 : decode cX10_scheme 124 = .ok (.iload 6, 2) := by decide +kernel
theorem dX10_scheme_126 : decode cX10_scheme 126 = .ok (.bipush 97, 2) := by decide +kernel
theorem dX10_scheme_128 : decode cX10_scheme 128 = .ok (.bipush 104, 2) := by decide +kernel
theorem dX10_scheme_130 : decode cX10_scheme 130 = .ok (.invokestatic 120, 3) := by decide +kernel
theorem dX10_scheme_133 : decode cX10_scheme 133 = .ok (.ifCond .eq 13, 3) := by decide +kernel
theorem dX10_scheme_136 : decode cX10_scheme 136 = .ok (.iconst 1, 1) := by decide +kernel
theorem dX10_scheme_137 : decode cX10_scheme 137 = .ok (.iload 6, 2) := by decide +kernel
theorem dX10_scheme_139 : decode cX10_scheme 139 = .ok (.bipush 97, 2) := by decide +kernel
theorem dX10_scheme_141 : decode cX10_scheme 141 = .ok (.isub, 1) := by decide +kernel
theorem dX10_scheme_142 : decode cX10_scheme 142 = .ok (.ishl, 1) := by decide +kernel
theorem dX10_scheme_143 : decode cX10_scheme 143 = .ok (.goto 4, 3) := by decide +kernel
theorem dX10_scheme_146 : decode cX10_scheme 146 = .ok (.iconst 0, 1) := by decide +kernel
theorem dX10_scheme_147 : decode cX10_scheme 147 = .ok (.ior, 1) := by decide +kernel
theorem dX10_scheme_148 : decode cX10_scheme 148 = .ok (.iastore, 1) := by decide +kernel
theorem dX10_scheme_149 : decode cX10_scheme 149 = .ok (.iinc 5 1, 3) := by decide +kernel
theorem dX10_scheme_152 : decode cX10_scheme 152 = .ok (.goto (-77), 3) := by decide +kernel
theorem dX10_scheme_155 : decode cX10_scheme 155 = .ok (.aload_n 0, 1) := by decide +kernel
theorem dX10_scheme_156 : decode cX10_scheme 156 = .ok (.getfield 39, 3) := by decide +kernel
theorem dX10_scheme_159 : decode cX10_scheme 159 = .ok (.iload_n 1, 1) := by decide +kernel
theorem dX10_scheme_160 : decode cX10_scheme 160 = .ok (.dup2, 1) := by decide +kernel
theorem dX10_scheme_161 : decode cX10_scheme 161 = .ok (.iaload, 1) := by decide +kernel
theorem dX10_scheme_162 : decode cX10_scheme 162 = .ok (.iconst 1, 1) := by decide +kernel
theorem dX10_scheme_163 : decode cX10_scheme 163 = .ok (.iadd, 1) := by decide +kernel
theorem dX10_scheme_164 : decode cX10_scheme 164 = .ok (.iastore, 1) := by decide +kernel
theorem dX10_scheme_165 : decode cX10_scheme 165 = .ok (.aload_n 0, 1) := by decide +kernel
theorem dX10_scheme_166 : decode cX10_scheme 166 = .ok (.getfield 39, 3) := by decide +kernel
theorem dX10_scheme_169 : decode cX10_scheme 169 = .ok (.iload_n 1, 1) := by decide +kernel
theorem dX10_scheme_170 : decode cX10_scheme 170 = .ok (.iaload, 1) := by decide +kernel
theorem dX10_scheme_171 : decode cX10_scheme 171 = .ok (.iconst 1, 1) := by decide +kernel
theorem dX10_scheme_172 : decode cX10_scheme 172 = .ok (.isub, 1) := by decide +kernel
theorem dX10_scheme_173 : decode cX10_scheme 173 = .ok (.ireturn, 1) := by decide +kernel
set_option maxRecDepth 20000 in
theorem ggX10_value_X10_in : GoodIn wsX10_value wsX10_in := goodIn_r _ [8] (by decide +kernel) (by decide +kernel)
set_option maxRecDepth 20000 in
theorem gX10_value_X10_in : GoodIn wsX10_value (va_wsS RX10 120 yX10_in wsX10_in) := goodIn_app (goodIn_of _ (by decide +kernel)) ggX10_value_X10_in
theorem dX10_value_0 : decode cX10_value 0 = .ok (.iconst 0, 1) := by decide +kernel
theorem dX10_value_1 : decode cX10_value 1 = .ok (.istore_n 3, 1) := by decide +kernel
theorem dX10_value_2 : decode cX10_value 2 = .ok (.iconst 1, 1) := by decide +kernel
theorem dX10_value_3 : decode cX10_value 3 = .ok (.istore 4, 2) := by decide +kernel
theorem dX10_value_5 : decode cX10_value 5 = .ok (.bipush 99, 2) := by decide +kernel
theorem dX10_value_7 : decode cX10_value 7 = .ok (.istore 5, 2) := by decide +kernel
theorem dX10_value_9 : decode cX10_value 9 = .ok (.iconst 0, 1) := by decide +kernel
theorem dX10_value_10 : decode cX10_value 10 = .ok (.istore 6, 2) := by decide +kernel
theorem dX10_value_12 : decode cX10_value 12 = .ok (.aload_n 0, 1) := by decide +kernel
theorem dX10_value_13 : decode cX10_value 13 = .ok (.getfield 102, 3) := by decide +kernel
theorem dX10_value_16 : decode cX10_value 16 = .ok (.iconst 0, 1) := by decide +kernel
theorem dX10_value_17 : decode cX10_value 17 = .ok (.iconst 0, 1) := by decide +kernel
theorem dX10_value_18 : decode cX10_value 18 = .ok (.iastore, 1) := by decide +kernel
theorem dX10_value_19 : decode cX10_value 19 = .ok (.bipush 90, 2) := by decide +kernel
theorem dX10_value_21 : decode cX10_value 21 = .ok (.iload_n 1, 1) := by decide +kernel
theorem dX10_value_22 : decode cX10_value 22 = .ok (.imul, 1) := by decide +kernel
theorem dX10_value_23 : decode cX10_value 23 = .ok (.istore 7, 2) := by decide +kernel
theorem dX10_value_25 : decode cX10_value 25 = .ok (.iload 7, 2) := by decide +kernel
theorem dX10_value_27 : decode cX10_value 27 = .ok (.bipush 90, 2) := by decide +kernel
theorem dX10_value_29 : decode cX10_value 29 = .ok (.iload_n 1, 1) := by decide +kernel
theorem dX10_value_30 : decode cX10_value 30 = .ok (.iconst 1, 1) := by decide +kernel
theorem dX10_value_31 : decode cX10_value 31 = .ok (.iadd, 1) := by decide +kernel
theorem dX10_value_32 : decode cX10_value 32 = .ok (.imul, 1) := by decide +kernel
theorem dX10_value_33 : decode cX10_value 33 = .ok (.if_icmp .ge 270, 3) := by decide +kernel
theorem dX10_value_36 : decode cX10_value 36 = .ok (.aload_n 0, 1) := by decide +kernel
theorem dX10_value_37 : decode cX10_value 37 = .ok (.getfield 42, 3) := by decide +kernel
theorem dX10_value_40 : decode cX10_value 40 = .ok (.iload 7, 2) := by decide +kernel
theorem dX10_value_42 : decode cX10_value 42 = .ok (.iaload, 1) := by decide +kernel
theorem dX10_value_43 : decode cX10_value 43 = .ok (.ifCond .eq 260, 3) := by decide +kernel
theorem dX10_value_46 : decode cX10_value 46 = .ok (.aload_n 0, 1) := by decide +kernel
theorem dX10_value_47 : decode cX10_value 47 = .ok (.getfield 42, 3) := by decide +kernel
theorem dX10_value_50 : decode cX10_value 50 = .ok (.iload 7, 2) := by decide +kernel
theorem dX10_value_52 : decode cX10_value 52 = .ok (.iaload, 1) := by decide +kernel
theorem dX10_value_53 : decode cX10_value 53 = .ok (.istore 8, 2) := by decide +kernel
theorem dX10_value_55 : decode cX10_value 55 = .ok (.iload 8, 2) := by decide +kernel
theorem dX10_value_57 : decode cX10_value 57 = .ok (.bipush 60, 2) := by decide +kernel
theorem dX10_value_59 : decode cX10_value 59 = .ok (.if_icmp .ne 12, 3) := by decide +kernel
theorem dX10_value_62 : decode cX10_value 62 = .ok (.iconst 1, 1) := by decide +kernel
theorem dX10_value_63 : decode cX10_value 63 = .ok (.istore 6, 2) := by decide +kernel
theorem dX10_value_65 : decode cX10_value 65 = .ok (.iconst 0, 1) := by decide +kernel
theorem dX10_value_66 : decode cX10_value 66 = .ok (.istore 5, 2) := by decide +kernel
theorem dX10_value_68 : decode cX10_value 68 = .ok (.goto 229, 3) := by decide +kernel
theorem dX10_value_71 : decode cX10_value 71 = .ok (.iload 8, 2) := by decide +kernel
theorem dX10_value_73 : decode cX10_value 73 = .ok (.bipush 48, 2) := by decide +kernel
theorem dX10_value_75 : decode cX10_value 75 = .ok (.bipush 57, 2) := by decide +kernel
theorem dX10_value_77 : decode cX10_value 77 = .ok (.invokestatic 120, 3) := by decide +kernel
theorem dX10_value_80 : decode cX10_value 80 = .ok (.ifCond .eq 33, 3) := by decide +kernel
theorem dX10_value_83 : decode cX10_value 83 = .ok (.iload 8, 2) := by decide +kernel
theorem dX10_value_85 : decode cX10_value 85 = .ok (.bipush 48, 2) := by decide +kernel
theorem dX10_value_87 : decode cX10_value 87 = .ok (.isub, 1) := by decide +kernel
theorem dX10_value_88 : decode cX10_value 88 = .ok (.istore 4, 2) := by decide +kernel
theorem dX10_value_90 : decode cX10_value 90 = .ok (.iload 6, 2) := by decide +kernel
theorem dX10_value_92 : decode cX10_value 92 = .ok (.ifCond .eq 14, 3) := by decide +kernel
theorem dX10_value_95 : decode cX10_value 95 = .ok (.bipush 10, 2) := by decide +kernel
theorem dX10_value_97 : decode cX10_value 97 = .ok (.iload 5, 2) := by decide +kernel
theorem dX10_value_99 : decode cX10_value 99 = .ok (.imul, 1) := by decide +kernel
theorem dX10_value_100 : decode cX10_value 100 = .ok (.iload 4, 2) := by decide +kernel
theorem dX10_value_102 : decode cX10_value 102 = .ok (.iadd, 1) := by decide +kernel
theorem dX10_value_103 : decode cX10_value 103 = .ok (.goto 5, 3) := by decide +kernel
theorem dX10_value_106 : decode cX10_value 106 = .ok (.iload 5, 2) := by decide +kernel
theorem dX10_value_108 : decode cX10_value 108 = .ok (.istore 5, 2) := by decide +kernel
theorem dX10_value_110 : decode cX10_value 110 = .ok (.goto 187, 3) := by decide +kernel
theorem dX10_value_113 : decode cX10_value 113 = .ok (.iload 8, 2) := by decide +kernel
theorem dX10_value_115 : decode cX10_value 115 = .ok (.bipush 97, 2) := by decide +kernel
theorem dX10_value_117 : decode cX10_value 117 = .ok (.bipush 104, 2) := by decide +kernel
theorem dX10_value_119 : decode cX10_value 119 = .ok (.invokestatic 120, 3) := by decide +kernel
theorem dX10_value_122 : decode cX10_value 122 = .ok (.ifCond .eq 27, 3) := by decide +kernel
theorem dX10_value_125 : decode cX10_value 125 = .ok (.aload_n 0, 1) := by decide +kernel
theorem dX10_value_126 : decode cX10_value 126 = .ok (.getfield 102, 3) := by decide +kernel
theorem dX10_value_129 : decode cX10_value 129 = .ok (.iload_n 3, 1) := by decide +kernel
theorem dX10_value_130 : decode cX10_value 130 = .ok (.dup2, 1) := by decide +kernel
theorem dX10_value_131 : decode cX10_value 131 = .ok (.iaload, 1) := by decide +kernel
theorem dX10_value_132 : decode cX10_value 132 = .ok (.iload 4, 2) := by decide +kernel
theorem dX10_value_134 : decode cX10_value 134 = .ok (.iload_n 2, 1) := by decide +kernel
theorem dX10_value_135 : decode cX10_value 135 = .ok (.iload 8, 2) := by decide +kernel
theorem dX10_value_137 : decode cX10_value 137 = .ok (.bipush 97, 2) := by decide +kernel
theorem dX10_value_139 : decode cX10_value 139 = .ok (.isub, 1) := by decide +kernel
theorem dX10_value_140 : decode cX10_value 140 = .ok (.ishr, 1) := by decide +kernel
theorem dX10_value_141 : decode cX10_value 141 = .ok (.iconst 1, 1) := by decide +kernel
theorem dX10_value_142 : decode cX10_value 142 = .ok (.iand, 1) := by decide +kernel
theorem dX10_value_143 : decode cX10_value 143 = .ok (.imul, 1) := by decide +kernel
theorem dX10_value_144 : decode cX10_value 144 = .ok (.iadd, 1) := by decide +kernel
theorem dX10_value_145 : decode cX10_value 145 = .ok (.iastore, 1) := by decide +kernel
theorem dX10_value_146 : decode cX10_value 146 = .ok (.goto 151, 3) := by decide +kernel
theorem dX10_value_149 : decode cX10_value 149 = .ok (.iload 8, 2) := by decide +kernel
theorem dX10_value_151 : decode cX10_value 151 = .ok (.bipush 40, 2) := by decide +kernel
theorem dX10_value_153 : decode cX10_value 153 = .ok (.if_icmp .ne 31, 3) := by decide +kernel
theorem dX10_value_156 : decode cX10_value 156 = .ok (.aload_n 0, 1) := by decide +kernel
theorem dX10_value_157 : decode cX10_value 157 = .ok (.getfield 108, 3) := by decide +kernel
theorem dX10_value_160 : decode cX10_value 160 = .ok (.iload_n 3, 1) := by decide +kernel
theorem dX10_value_161 : decode cX10_value 161 = .ok (.iload 4, 2) := by decide +kernel
theorem dX10_value_163 : decode cX10_value 163 = .ok (.iastore, 1) := by decide +kernel
theorem dX10_value_164 : decode cX10_value 164 = .ok (.iinc 3 1, 3) := by decide +kernel
theorem dX10_value_167 : decode cX10_value 167 = .ok (.aload_n 0, 1) := by decide +kernel
theorem dX10_value_168 : decode cX10_value 168 = .ok (.getfield 102, 3) := by decide +kernel
theorem dX10_value_171 : decode cX10_value 171 = .ok (.iload_n 3, 1) := by decide +kernel
theorem dX10_value_172 : decode cX10_value 172 = .ok (.iconst 0, 1) := by decide +kernel
theorem dX10_value_173 : decode cX10_value 173 = .ok (.iastore, 1) := by decide +kernel
theorem dX10_value_174 : decode cX10_value 174 = .ok (.aload_n 0, 1) := by decide +kernel
theorem dX10_value_175 : decode cX10_value 175 = .ok (.getfield 105, 3) := by decide +kernel
theorem dX10_value_178 : decode cX10_value 178 = .ok (.iload_n 3, 1) := by decide +kernel
theorem dX10_value_179 : decode cX10_value 179 = .ok (.iconst 0, 1) := by decide +kernel
theorem dX10_value_180 : decode cX10_value 180 = .ok (.iastore, 1) := by decide +kernel
theorem dX10_value_181 : decode cX10_value 181 = .ok (.goto 116, 3) := by decide +kernel
theorem dX10_value_184 : decode cX10_value 184 = .ok (.iload 8, 2) := by decide +kernel
theorem dX10_value_186 : decode cX10_value 186 = .ok (.bipush 124, 2) := by decide +kernel
theorem dX10_value_188 : decode cX10_value 188 = .ok (.if_icmp .ne 49, 3) := by decide +kernel
theorem dX10_value_191 : decode cX10_value 191 = .ok (.aload_n 0, 1) := by decide +kernel
theorem dX10_value_192 : decode cX10_value 192 = .ok (.getfield 105, 3) := by decide +kernel
theorem dX10_value_195 : decode cX10_value 195 = .ok (.iload_n 3, 1) := by decide +kernel
theorem dX10_value_196 : decode cX10_value 196 = .ok (.aload_n 0, 1) := by decide +kernel
theorem dX10_value_197 : decode cX10_value 197 = .ok (.getfield 102, 3) := by decide +kernel
theorem dX10_value_200 : decode cX10_value 200 = .ok (.iload_n 3, 1) := by decide +kernel
theorem dX10_value_201 : decode cX10_value 201 = .ok (.iaload, 1) := by decide +kernel
theorem dX10_value_202 : decode cX10_value 202 = .ok (.aload_n 0, 1) := by decide +kernel
theorem dX10_value_203 : decode cX10_value 203 = .ok (.getfield 105, 3) := by decide +kernel
theorem dX10_value_206 : decode cX10_value 206 = .ok (.iload_n 3, 1) := by decide +kernel
theorem dX10_value_207 : decode cX10_value 207 = .ok (.iaload, 1) := by decide +kernel
theorem dX10_value_208 : decode cX10_value 208 = .ok (.if_icmp .le 12, 3) := by decide +kernel
theorem dX10_value_211 : decode cX10_value 211 = .ok (.aload_n 0, 1) := by decide +kernel
theorem dX10_value_212 : decode cX10_value 212 = .ok (.getfield 102, 3) := by decide +kernel
theorem dX10_value_215 : decode cX10_value 215 = .ok (.iload_n 3, 1) := by decide +kernel
theorem dX10_value_216 : decode cX10_value 216 = .ok (.iaload, 1) := by decide +kernel
theorem dX10_value_217 : decode cX10_value 217 = .ok (.goto 9, 3) := by decide +kernel
theorem dX10_value_220 : decode cX10_value 220 = .ok (.aload_n 0, 1) := by decide +kernel
theorem dX10_value_221 : decode cX10_value 221 = .ok (.getfield 105, 3) := by decide +kernel
theorem dX10_value_224 : decode cX10_value 224 = .ok (.iload_n 3, 1) := by decide +kernel
theorem dX10_value_225 : decode cX10_value 225 = .ok (.iaload, 1) := by decide +kernel
theorem dX10_value_226 : decode cX10_value 226 = .ok (.iastore, 1) := by decide +kernel
theorem dX10_value_227 : decode cX10_value 227 = .ok (.aload_n 0, 1) := by decide +kernel
theorem dX10_value_228 : decode cX10_value 228 = .ok (.getfield 102, 3) := by decide +kernel
theorem dX10_value_231 : decode cX10_value 231 = .ok (.iload_n 3, 1) := by decide +kernel
theorem dX10_value_232 : decode cX10_value 232 = .ok (.iconst 0, 1) := by decide +kernel
theorem dX10_value_233 : decode cX10_value 233 = .ok (.iastore, 1) := by decide +kernel
theorem dX10_value_234 : decode cX10_value 234 = .ok (.goto 63, 3) := by decide +kernel
theorem dX10_value_237 : decode cX10_value 237 = .ok (.iload 8, 2) := by decide +kernel
theorem dX10_value_239 : decode cX10_value 239 = .ok (.bipush 41, 2) := by decide +kernel
theorem dX10_value_241 : decode cX10_value 241 = .ok (.if_icmp .ne 56, 3) := by decide +kernel
theorem dX10_value_244 : decode cX10_value 244 = .ok (.aload_n 0, 1) := by decide +kernel
theorem dX10_value_245 : decode cX10_value 245 = .ok (.getfield 102, 3) := by decide +kernel
theorem dX10_value_248 : decode cX10_value 248 = .ok (.iload_n 3, 1) := by decide +kernel
theorem dX10_value_249 : decode cX10_value 249 = .ok (.iaload, 1) := by decide +kernel
theorem dX10_value_250 : decode cX10_value 250 = .ok (.aload_n 0, 1) := by decide +kernel
theorem dX10_value_251 : decode cX10_value 251 = .ok (.getfield 105, 3) := by decide +kernel
theorem dX10_value_254 : decode cX10_value 254 = .ok (.iload_n 3, 1) := by decide +kernel
theorem dX10_value_255 : decode cX10_value 255 = .ok (.iaload, 1) := by decide +kernel
theorem dX10_value_256 : decode cX10_value 256 = .ok (.if_icmp .le 12, 3) := by decide +kernel
theorem dX10_value_259 : decode cX10_value 259 = .ok (.aload_n 0, 1) := by decide +kernel
theorem dX10_value_260 : decode cX10_value 260 = .ok (.getfield 102, 3) := by decide +kernel
theorem dX10_value_263 : decode cX10_value 263 = .ok (.iload_n 3, 1) := by decide +kernel
theorem dX10_value_264 : decode cX10_value 264 = .ok (.iaload, 1) := by decide +kernel
theorem dX10_value_265 : decode cX10_value 265 = .ok (.goto 9, 3) := by decide +kernel
theorem dX10_value_268 : decode cX10_value 268 = .ok (.aload_n 0, 1) := by decide +kernel
theorem dX10_value_269 : decode cX10_value 269 = .ok (.getfield 105, 3) := by decide +kernel
theorem dX10_value_272 : decode cX10_value 272 = .ok (.iload_n 3, 1) := by decide +kernel
theorem dX10_value_273 : decode cX10_value 273 = .ok (.iaload, 1) := by decide +kernel
theorem dX10_value_274 : decode cX10_value 274 = .ok (.istore 9, 2) := by decide +kernel
theorem dX10_value_276 : decode cX10_value 276 = .ok (.iinc 3 (-1), 3) := by decide +kernel
theorem dX10_value_279 : decode cX10_value 279 = .ok (.aload_n 0, 1) := by decide +kernel
theorem dX10_value_280 : decode cX10_value 280 = .ok (.getfield 102, 3) := by decide +kernel
theorem dX10_value_283 : decode cX10_value 283 = .ok (.iload_n 3, 1) := by decide +kernel
theorem dX10_value_284 : decode cX10_value 284 = .ok (.dup2, 1) := by decide +kernel
theorem dX10_value_285 : decode cX10_value 285 = .ok (.iaload, 1) := by decide +kernel
theorem dX10_value_286 : decode cX10_value 286 = .ok (.aload_n 0, 1) := by decide +kernel
theorem dX10_value_287 : decode cX10_value 287 = .ok (.getfield 108, 3) := by decide +kernel
theorem dX10_value_290 : decode cX10_value 290 = .ok (.iload_n 3, 1) := by decide +kernel
theorem dX10_value_291 : decode cX10_value 291 = .ok (.iaload, 1) := by decide +kernel
theorem dX10_value_292 : decode cX10_value 292 = .ok (.iload 9, 2) := by decide +kernel
theorem dX10_value_294 : decode cX10_value 294 = .ok (.imul, 1) := by decide +kernel
theorem dX10_value_295 : decode cX10_value 295 = .ok (.iadd, 1) := by decide +kernel
theorem dX10_value_296 : decode cX10_value 296 = .ok (.iastore, 1) := by decide +kernel
theorem dX10_value_297 : decode cX10_value 297 = .ok (.iinc 7 1, 3) := by decide +kernel
theorem dX10_value_300 : decode cX10_value 300 = .ok (.goto (-275), 3) := by decide +kernel
theorem dX10_value_303 : decode cX10_value 303 = .ok (.aload_n 0, 1) := by decide +kernel
theorem dX10_value_304 : decode cX10_value 304 = .ok (.getfield 102, 3) := by decide +kernel
theorem dX10_value_307 : decode cX10_value 307 = .ok (.iconst 0, 1) := by decide +kernel
theorem dX10_value_308 : decode cX10_value 308 = .ok (.iaload, 1) := by decide +kernel
theorem dX10_value_309 : decode cX10_value 309 = .ok (.iload 5, 2) := by decide +kernel
theorem dX10_value_311 : decode cX10_value 311 = .ok (.if_icmp .ge 12, 3) := by decide +kernel
theorem dX10_value_314 : decode cX10_value 314 = .ok (.aload_n 0, 1) := by decide +kernel
theorem dX10_value_315 : decode cX10_value 315 = .ok (.getfield 102, 3) := by decide +kernel
theorem dX10_value_318 : decode cX10_value 318 = .ok (.iconst 0, 1) := by decide +kernel
theorem dX10_value_319 : decode cX10_value 319 = .ok (.iaload, 1) := by decide +kernel
theorem dX10_value_320 : decode cX10_value 320 = .ok (.goto 5, 3) := by decide +kernel
theorem dX10_value_323 : decode cX10_value 323 = .ok (.iload 5, 2) := by decide +kernel
theorem dX10_value_325 : decode cX10_value 325 = .ok (.ireturn, 1) := by decide +kernel
theorem dX10_held_0 : decode cX10_held 0 = .ok (.bipush 6, 2) := by decide +kernel
theorem dX10_held_2 : decode cX10_held 2 = .ok (.iload_n 1, 1) := by decide +kernel
theorem dX10_held_3 : decode cX10_held 3 = .ok (.imul, 1) := by decide +kernel
theorem dX10_held_4 : decode cX10_held 4 = .ok (.aload_n 0, 1) := by decide +kernel
theorem dX10_held_5 : decode cX10_held 5 = .ok (.getfield 39, 3) := by decide +kernel
theorem dX10_held_8 : decode cX10_held 8 = .ok (.iload_n 1, 1) := by decide +kernel
theorem dX10_held_9 : decode cX10_held 9 = .ok (.iaload, 1) := by decide +kernel
theorem dX10_held_10 : decode cX10_held 10 = .ok (.iadd, 1) := by decide +kernel
theorem dX10_held_11 : decode cX10_held 11 = .ok (.iconst 1, 1) := by decide +kernel
theorem dX10_held_12 : decode cX10_held 12 = .ok (.isub, 1) := by decide +kernel
theorem dX10_held_13 : decode cX10_held 13 = .ok (.ireturn, 1) := by decide +kernel
set_option maxRecDepth 20000 in
theorem ggX10_twice_X10_isQuestion : GoodIn wsX10_twice wsX10_isQuestion := goodIn_r _ [5, 6, 7, 4, 8] (by decide +kernel) (by decide +kernel)
set_option maxRecDepth 20000 in
theorem gX10_twice_X10_isQuestion : GoodIn wsX10_twice (va_wsS RX10 138 yX10_isQuestion wsX10_isQuestion) := goodIn_app (goodIn_of _ (by decide +kernel)) ggX10_twice_X10_isQuestion
set_option maxRecDepth 20000 in
theorem ggX10_twice_X10_asked : GoodIn wsX10_twice wsX10_asked := goodIn_r _ [12, 13, 14, 15, 16, 17, 18, 19, 20, 21, 22, 23, 24, 25, 26, 27, 28, 29, 30, 31, 32, 33, 34, 35, 36, 37, 38, 39, 40, 41, 42, 43, 44, 45, 46, 47, 48, 49, 50, 51, 52, 53, 54] (by decide +kernel) (by decide +kernel)
set_option maxRecDepth 20000 in
theorem gX10_twice_X10_asked : GoodIn wsX10_twice (wsV RX10 145 RX10 yX10_asked wsX10_asked) := goodIn_app (goodIn_of _ (by decide +kernel)) ggX10_twice_X10_asked
theorem dX10_twice_0 : decode cX10_twice 0 = .ok (.aload_n 0, 1) := by decide +kernel
theorem dX10_twice_1 : decode cX10_twice 1 = .ok (.iload_n 1, 1) := by decide +kernel
theorem dX10_twice_2 : decode cX10_twice 2 = .ok (.invokestatic 138, 3) := by decide +kernel
theorem dX10_twice_5 : decode cX10_twice 5 = .ok (.invokevirtual 145, 3) := by decide +kernel
theorem dX10_twice_8 : decode cX10_twice 8 = .ok (.ifCond .ne 5, 3) := by decide +kernel
theorem dX10_twice_11 : decode cX10_twice 11 = .ok (.iconst 0, 1) := by decide +kernel
theorem dX10_twice_12 : decode cX10_twice 12 = .ok (.ireturn, 1) := by decide +kernel
theorem dX10_twice_13 : decode cX10_twice 13 = .ok (.aload_n 0, 1) := by decide +kernel
theorem dX10_twice_14 : decode cX10_twice 14 = .ok (.getfield 48, 3) := by decide +kernel
theorem dX10_twice_17 : decode cX10_twice 17 = .ok (.iload_n 1, 1) := by decide +kernel
theorem dX10_twice_18 : decode cX10_twice 18 = .ok (.baload, 1) := by decide +kernel
theorem dX10_twice_19 : decode cX10_twice 19 = .ok (.istore_n 3, 1) := by decide +kernel
theorem dX10_twice_20 : decode cX10_twice 20 = .ok (.aload_n 0, 1) := by decide +kernel
theorem dX10_twice_21 : decode cX10_twice 21 = .ok (.getfield 48, 3) := by decide +kernel
theorem dX10_twice_24 : decode cX10_twice 24 = .ok (.iload_n 1, 1) := by decide +kernel
theorem dX10_twice_25 : decode cX10_twice 25 = .ok (.iload_n 2, 1) := by decide +kernel
theorem dX10_twice_26 : decode cX10_twice 26 = .ok (.bastore, 1) := by decide +kernel
theorem dX10_twice_27 : decode cX10_twice 27 = .ok (.iload_n 3, 1) := by decide +kernel
theorem dX10_twice_28 : decode cX10_twice 28 = .ok (.ireturn, 1) := by decide +kernel
set_option maxRecDepth 20000 in
theorem ggX10_tolerance_X10_in : GoodIn wsX10_tolerance wsX10_in := goodIn_r _ [5] (by decide +kernel) (by decide +kernel)
set_option maxRecDepth 20000 in
theorem gX10_tolerance_X10_in : GoodIn wsX10_tolerance (va_wsS RX10 120 yX10_in wsX10_in) := goodIn_app (goodIn_of _ (by decide +kernel)) ggX10_tolerance_X10_in
set_option maxRecDepth 20000 in
theorem ggX10_tolerance_X10_asked : GoodIn wsX10_tolerance wsX10_asked := goodIn_r _ [9, 10, 11, 12, 13, 14, 15, 16, 17, 18, 19, 20, 21, 22, 23, 24, 25, 26, 27, 28, 29, 30, 31, 32, 33, 34, 35, 36, 37, 38, 39, 40, 41, 42, 43, 44, 45, 46, 47, 48, 49, 50, 51] (by decide +kernel) (by decide +kernel)
set_option maxRecDepth 20000 in
theorem gX10_tolerance_X10_asked : GoodIn wsX10_tolerance (wsV RX10 145 RX10 yX10_asked wsX10_asked) := goodIn_app (goodIn_of _ (by decide +kernel)) ggX10_tolerance_X10_asked
theorem dX10_tolerance_0 : decode cX10_tolerance 0 = .ok (.aload_n 0, 1) := by decide +kernel
theorem dX10_tolerance_1 : decode cX10_tolerance 1 = .ok (.iload_n 1, 1) := by decide +kernel
theorem dX10_tolerance_2 : decode cX10_tolerance 2 = .ok (.iconst 0, 1) := by decide +kernel
theorem dX10_tolerance_3 : decode cX10_tolerance 3 = .ok (.bipush 9, 2) := by decide +kernel
theorem dX10_tolerance_5 : decode cX10_tolerance 5 = .ok (.invokestatic 120, 3) := by decide +kernel
theorem dX10_tolerance_8 : decode cX10_tolerance 8 = .ok (.invokevirtual 145, 3) := by decide +kernel
theorem dX10_tolerance_11 : decode cX10_tolerance 11 = .ok (.ifCond .ne 5, 3) := by decide +kernel
theorem dX10_tolerance_14 : decode cX10_tolerance 14 = .ok (.iconst 0, 1) := by decide +kernel
theorem dX10_tolerance_15 : decode cX10_tolerance 15 = .ok (.ireturn, 1) := by decide +kernel
theorem dX10_tolerance_16 : decode cX10_tolerance 16 = .ok (.aload_n 0, 1) := by decide +kernel
theorem dX10_tolerance_17 : decode cX10_tolerance 17 = .ok (.getfield 13, 3) := by decide +kernel
theorem dX10_tolerance_20 : decode cX10_tolerance 20 = .ok (.istore_n 2, 1) := by decide +kernel
theorem dX10_tolerance_21 : decode cX10_tolerance 21 = .ok (.aload_n 0, 1) := by decide +kernel
theorem dX10_tolerance_22 : decode cX10_tolerance 22 = .ok (.iload_n 1, 1) := by decide +kernel
theorem dX10_tolerance_23 : decode cX10_tolerance 23 = .ok (.putfield 13, 3) := by decide +kernel
theorem dX10_tolerance_26 : decode cX10_tolerance 26 = .ok (.iload_n 2, 1) := by decide +kernel
theorem dX10_tolerance_27 : decode cX10_tolerance 27 = .ok (.ireturn, 1) := by decide +kernel
set_option maxRecDepth 20000 in
theorem ggX10_reader_X10_in : GoodIn wsX10_reader wsX10_in := goodIn_r _ [9] (by decide +kernel) (by decide +kernel)
set_option maxRecDepth 20000 in
theorem gX10_reader_X10_in : GoodIn wsX10_reader (va_wsS RX10 120 yX10_in wsX10_in) := goodIn_app (goodIn_of _ (by decide +kernel)) ggX10_reader_X10_in
set_option maxRecDepth 20000 in
theorem ggX10_reader_X10_asked_ : GoodIn wsX10_reader wsX10_asked_ := goodIn_r _ [13, 14, 15, 16, 17, 18, 19, 20, 21, 22, 23, 24, 25, 26, 27, 28, 29, 30, 31, 32, 33, 34, 35, 36, 37, 38, 39, 40, 41, 42, 43, 44, 45, 46, 47, 48, 49, 50, 51, 52, 53, 54, 55] (by decide +kernel) (by decide +kernel)
set_option maxRecDepth 20000 in
theorem gX10_reader_X10_asked_ : GoodIn wsX10_reader (wsV RX10 127 RX10 yX10_asked_ wsX10_asked_) := goodIn_app (goodIn_of _ (by decide +kernel)) ggX10_reader_X10_asked_
theorem dX10_reader_0 : decode cX10_reader 0 = .ok (.aload_n 0, 1) := by decide +kernel
theorem dX10_reader_1 : decode cX10_reader 1 = .ok (.iload_n 1, 1) := by decide +kernel
theorem dX10_reader_2 : decode cX10_reader 2 = .ok (.iconst (-1), 1) := by decide +kernel
theorem dX10_reader_3 : decode cX10_reader 3 = .ok (.iconst 4, 1) := by decide +kernel
theorem dX10_reader_4 : decode cX10_reader 4 = .ok (.invokestatic 120, 3) := by decide +kernel
theorem dX10_reader_7 : decode cX10_reader 7 = .ok (.ifCond .eq 17, 3) := by decide +kernel
theorem dX10_reader_10 : decode cX10_reader 10 = .ok (.iload_n 2, 1) := by decide +kernel
theorem dX10_reader_11 : decode cX10_reader 11 = .ok (.iconst 1, 1) := by decide +kernel
theorem dX10_reader_12 : decode cX10_reader 12 = .ok (.bipush 15, 2) := by decide +kernel
theorem dX10_reader_14 : decode cX10_reader 14 = .ok (.invokestatic 120, 3) := by decide +kernel
theorem dX10_reader_17 : decode cX10_reader 17 = .ok (.ifCond .eq 7, 3) := by decide +kernel
theorem dX10_reader_20 : decode cX10_reader 20 = .ok (.iconst 1, 1) := by decide +kernel
theorem dX10_reader_21 : decode cX10_reader 21 = .ok (.goto 4, 3) := by decide +kernel
theorem dX10_reader_24 : decode cX10_reader 24 = .ok (.iconst 0, 1) := by decide +kernel
theorem dX10_reader_25 : decode cX10_reader 25 = .ok (.aload_n 0, 1) := by decide +kernel
theorem dX10_reader_26 : decode cX10_reader 26 = .ok (.getfield 124, 3) := by decide +kernel
theorem dX10_reader_29 : decode cX10_reader 29 = .ok (.bipush 6, 2) := by decide +kernel
theorem dX10_reader_31 : decode cX10_reader 31 = .ok (.if_icmp .ge 7, 3) := by decide +kernel
theorem dX10_reader_34 : decode cX10_reader 34 = .ok (.iconst 1, 1) := by decide +kernel
theorem dX10_reader_35 : decode cX10_reader 35 = .ok (.goto 4, 3) := by decide +kernel
theorem dX10_reader_38 : decode cX10_reader 38 = .ok (.iconst 0, 1) := by decide +kernel
theorem dX10_reader_39 : decode cX10_reader 39 = .ok (.invokevirtual 127, 3) := by decide +kernel
theorem dX10_reader_42 : decode cX10_reader 42 = .ok (.ifCond .ne 5, 3) := by decide +kernel
theorem dX10_reader_45 : decode cX10_reader 45 = .ok (.iconst 0, 1) := by decide +kernel
theorem dX10_reader_46 : decode cX10_reader 46 = .ok (.ireturn, 1) := by decide +kernel
theorem dX10_reader_47 : decode cX10_reader 47 = .ok (.aload_n 0, 1) := by decide +kernel
theorem dX10_reader_48 : decode cX10_reader 48 = .ok (.getfield 51, 3) := by decide +kernel
theorem dX10_reader_51 : decode cX10_reader 51 = .ok (.aload_n 0, 1) := by decide +kernel
theorem dX10_reader_52 : decode cX10_reader 52 = .ok (.getfield 124, 3) := by decide +kernel
theorem dX10_reader_55 : decode cX10_reader 55 = .ok (.iload_n 1, 1) := by decide +kernel
theorem dX10_reader_56 : decode cX10_reader 56 = .ok (.iastore, 1) := by decide +kernel
theorem dX10_reader_57 : decode cX10_reader 57 = .ok (.aload_n 0, 1) := by decide +kernel
theorem dX10_reader_58 : decode cX10_reader 58 = .ok (.getfield 54, 3) := by decide +kernel
theorem dX10_reader_61 : decode cX10_reader 61 = .ok (.aload_n 0, 1) := by decide +kernel
theorem dX10_reader_62 : decode cX10_reader 62 = .ok (.getfield 124, 3) := by decide +kernel
theorem dX10_reader_65 : decode cX10_reader 65 = .ok (.iload_n 2, 1) := by decide +kernel
theorem dX10_reader_66 : decode cX10_reader 66 = .ok (.iastore, 1) := by decide +kernel
theorem dX10_reader_67 : decode cX10_reader 67 = .ok (.aload_n 0, 1) := by decide +kernel
theorem dX10_reader_68 : decode cX10_reader 68 = .ok (.getfield 57, 3) := by decide +kernel
theorem dX10_reader_71 : decode cX10_reader 71 = .ok (.aload_n 0, 1) := by decide +kernel
theorem dX10_reader_72 : decode cX10_reader 72 = .ok (.getfield 124, 3) := by decide +kernel
theorem dX10_reader_75 : decode cX10_reader 75 = .ok (.iload_n 3, 1) := by decide +kernel
theorem dX10_reader_76 : decode cX10_reader 76 = .ok (.bastore, 1) := by decide +kernel
theorem dX10_reader_77 : decode cX10_reader 77 = .ok (.aload_n 0, 1) := by decide +kernel
theorem dX10_reader_78 : decode cX10_reader 78 = .ok (.getfield 63, 3) := by decide +kernel
theorem dX10_reader_81 : decode cX10_reader 81 = .ok (.aload_n 0, 1) := by decide +kernel
theorem dX10_reader_82 : decode cX10_reader 82 = .ok (.getfield 124, 3) := by decide +kernel
theorem dX10_reader_85 : decode cX10_reader 85 = .ok (.iconst (-1), 1) := by decide +kernel
theorem dX10_reader_86 : decode cX10_reader 86 = .ok (.iastore, 1) := by decide +kernel
theorem dX10_reader_87 : decode cX10_reader 87 = .ok (.aload_n 0, 1) := by decide +kernel
theorem dX10_reader_88 : decode cX10_reader 88 = .ok (.dup, 1) := by decide +kernel
theorem dX10_reader_89 : decode cX10_reader 89 = .ok (.getfield 124, 3) := by decide +kernel
theorem dX10_reader_92 : decode cX10_reader 92 = .ok (.iconst 1, 1) := by decide +kernel
theorem dX10_reader_93 : decode cX10_reader 93 = .ok (.iadd, 1) := by decide +kernel
theorem dX10_reader_94 : decode cX10_reader 94 = .ok (.putfield 124, 3) := by decide +kernel
theorem dX10_reader_97 : decode cX10_reader 97 = .ok (.aload_n 0, 1) := by decide +kernel
theorem dX10_reader_98 : decode cX10_reader 98 = .ok (.getfield 124, 3) := by decide +kernel
theorem dX10_reader_101 : decode cX10_reader 101 = .ok (.iconst 1, 1) := by decide +kernel
theorem dX10_reader_102 : decode cX10_reader 102 = .ok (.isub, 1) := by decide +kernel
theorem dX10_reader_103 : decode cX10_reader 103 = .ok (.ireturn, 1) := by decide +kernel
set_option maxRecDepth 20000 in
theorem ggX10_seed_X10_isQuestion : GoodIn wsX10_seed wsX10_isQuestion := goodIn_r _ [8, 9, 10, 7, 11] (by decide +kernel) (by decide +kernel)
set_option maxRecDepth 20000 in
theorem gX10_seed_X10_isQuestion : GoodIn wsX10_seed (va_wsS RX10 138 yX10_isQuestion wsX10_isQuestion) := goodIn_app (goodIn_of _ (by decide +kernel)) ggX10_seed_X10_isQuestion
set_option maxRecDepth 20000 in
theorem ggX10_seed_X10_in : GoodIn wsX10_seed wsX10_in := goodIn_r _ [11] (by decide +kernel) (by decide +kernel)
set_option maxRecDepth 20000 in
theorem gX10_seed_X10_in : GoodIn wsX10_seed (va_wsS RX10 120 yX10_in wsX10_in) := goodIn_app (goodIn_of _ (by decide +kernel)) ggX10_seed_X10_in
set_option maxRecDepth 20000 in
theorem ggX10_seed_X10_asked__ : GoodIn wsX10_seed wsX10_asked__ := goodIn_r _ [15, 16, 17, 18, 19, 20, 21, 22, 23, 24, 25, 26, 27, 28, 29, 30, 31, 32, 33, 34, 35, 36, 37, 38, 39, 40, 41, 42, 43, 44, 45, 46, 47, 48, 49, 50, 51, 52, 53, 54, 55, 56, 57] (by decide +kernel) (by decide +kernel)
set_option maxRecDepth 20000 in
theorem gX10_seed_X10_asked__ : GoodIn wsX10_seed (wsV RX10 151 RX10 yX10_asked__ wsX10_asked__) := goodIn_app (goodIn_of _ (by decide +kernel)) ggX10_seed_X10_asked__
theorem dX10_seed_0 : decode cX10_seed 0 = .ok (.iload_n 1, 1) := by decide +kernel
theorem dX10_seed_1 : decode cX10_seed 1 = .ok (.invokestatic 138, 3) := by decide +kernel
theorem dX10_seed_4 : decode cX10_seed 4 = .ok (.istore_n 3, 1) := by decide +kernel
theorem dX10_seed_5 : decode cX10_seed 5 = .ok (.aload_n 0, 1) := by decide +kernel
theorem dX10_seed_6 : decode cX10_seed 6 = .ok (.iload_n 3, 1) := by decide +kernel
theorem dX10_seed_7 : decode cX10_seed 7 = .ok (.iload_n 2, 1) := by decide +kernel
theorem dX10_seed_8 : decode cX10_seed 8 = .ok (.iconst 0, 1) := by decide +kernel
theorem dX10_seed_9 : decode cX10_seed 9 = .ok (.sipush 255, 3) := by decide +kernel
theorem dX10_seed_12 : decode cX10_seed 12 = .ok (.invokestatic 120, 3) := by decide +kernel
theorem dX10_seed_15 : decode cX10_seed 15 = .ok (.iload_n 3, 1) := by decide +kernel
theorem dX10_seed_16 : decode cX10_seed 16 = .ok (.ifCond .eq 25, 3) := by decide +kernel
theorem dX10_seed_19 : decode cX10_seed 19 = .ok (.aload_n 0, 1) := by decide +kernel
theorem dX10_seed_20 : decode cX10_seed 20 = .ok (.getfield 148, 3) := by decide +kernel
theorem dX10_seed_23 : decode cX10_seed 23 = .ok (.bipush 8, 2) := by decide +kernel
theorem dX10_seed_25 : decode cX10_seed 25 = .ok (.if_icmp .ge 16, 3) := by decide +kernel
theorem dX10_seed_28 : decode cX10_seed 28 = .ok (.aload_n 0, 1) := by decide +kernel
theorem dX10_seed_29 : decode cX10_seed 29 = .ok (.getfield 39, 3) := by decide +kernel
theorem dX10_seed_32 : decode cX10_seed 32 = .ok (.iload_n 1, 1) := by decide +kernel
theorem dX10_seed_33 : decode cX10_seed 33 = .ok (.iaload, 1) := by decide +kernel
theorem dX10_seed_34 : decode cX10_seed 34 = .ok (.ifCond .le 7, 3) := by decide +kernel
theorem dX10_seed_37 : decode cX10_seed 37 = .ok (.iconst 1, 1) := by decide +kernel
theorem dX10_seed_38 : decode cX10_seed 38 = .ok (.goto 4, 3) := by decide +kernel
theorem dX10_seed_41 : decode cX10_seed 41 = .ok (.iconst 0, 1) := by decide +kernel
theorem dX10_seed_42 : decode cX10_seed 42 = .ok (.invokevirtual 151, 3) := by decide +kernel
theorem dX10_seed_45 : decode cX10_seed 45 = .ok (.ifCond .ne 5, 3) := by decide +kernel
theorem dX10_seed_48 : decode cX10_seed 48 = .ok (.iconst 0, 1) := by decide +kernel
theorem dX10_seed_49 : decode cX10_seed 49 = .ok (.ireturn, 1) := by decide +kernel
theorem dX10_seed_50 : decode cX10_seed 50 = .ok (.aload_n 0, 1) := by decide +kernel
theorem dX10_seed_51 : decode cX10_seed 51 = .ok (.getfield 78, 3) := by decide +kernel
theorem dX10_seed_54 : decode cX10_seed 54 = .ok (.aload_n 0, 1) := by decide +kernel
theorem dX10_seed_55 : decode cX10_seed 55 = .ok (.getfield 148, 3) := by decide +kernel
theorem dX10_seed_58 : decode cX10_seed 58 = .ok (.iload_n 1, 1) := by decide +kernel
theorem dX10_seed_59 : decode cX10_seed 59 = .ok (.iastore, 1) := by decide +kernel
theorem dX10_seed_60 : decode cX10_seed 60 = .ok (.aload_n 0, 1) := by decide +kernel
theorem dX10_seed_61 : decode cX10_seed 61 = .ok (.getfield 81, 3) := by decide +kernel
theorem dX10_seed_64 : decode cX10_seed 64 = .ok (.aload_n 0, 1) := by decide +kernel
theorem dX10_seed_65 : decode cX10_seed 65 = .ok (.getfield 148, 3) := by decide +kernel
theorem dX10_seed_68 : decode cX10_seed 68 = .ok (.iload_n 2, 1) := by decide +kernel
theorem dX10_seed_69 : decode cX10_seed 69 = .ok (.iastore, 1) := by decide +kernel
theorem dX10_seed_70 : decode cX10_seed 70 = .ok (.aload_n 0, 1) := by decide +kernel
theorem dX10_seed_71 : decode cX10_seed 71 = .ok (.dup, 1) := by decide +kernel
theorem dX10_seed_72 : decode cX10_seed 72 = .ok (.getfield 148, 3) := by decide +kernel
theorem dX10_seed_75 : decode cX10_seed 75 = .ok (.iconst 1, 1) := by decide +kernel
theorem dX10_seed_76 : decode cX10_seed 76 = .ok (.iadd, 1) := by decide +kernel
theorem dX10_seed_77 : decode cX10_seed 77 = .ok (.putfield 148, 3) := by decide +kernel
theorem dX10_seed_80 : decode cX10_seed 80 = .ok (.aload_n 0, 1) := by decide +kernel
theorem dX10_seed_81 : decode cX10_seed 81 = .ok (.getfield 148, 3) := by decide +kernel
theorem dX10_seed_84 : decode cX10_seed 84 = .ok (.iconst 1, 1) := by decide +kernel
theorem dX10_seed_85 : decode cX10_seed 85 = .ok (.isub, 1) := by decide +kernel
theorem dX10_seed_86 : decode cX10_seed 86 = .ok (.ireturn, 1) := by decide +kernel
theorem dX10_hasAnswer_0 : decode cX10_hasAnswer 0 = .ok (.aload_n 0, 1) := by decide +kernel
theorem dX10_hasAnswer_1 : decode cX10_hasAnswer 1 = .ok (.getfield 20, 3) := by decide +kernel
theorem dX10_hasAnswer_4 : decode cX10_hasAnswer 4 = .ok (.iload_n 1, 1) := by decide +kernel
theorem dX10_hasAnswer_5 : decode cX10_hasAnswer 5 = .ok (.iconst 4, 1) := by decide +kernel
theorem dX10_hasAnswer_6 : decode cX10_hasAnswer 6 = .ok (.idiv, 1) := by decide +kernel
theorem dX10_hasAnswer_7 : decode cX10_hasAnswer 7 = .ok (.iaload, 1) := by decide +kernel
theorem dX10_hasAnswer_8 : decode cX10_hasAnswer 8 = .ok (.iload_n 1, 1) := by decide +kernel
theorem dX10_hasAnswer_9 : decode cX10_hasAnswer 9 = .ok (.iconst 4, 1) := by decide +kernel
theorem dX10_hasAnswer_10 : decode cX10_hasAnswer 10 = .ok (.irem, 1) := by decide +kernel
theorem dX10_hasAnswer_11 : decode cX10_hasAnswer 11 = .ok (.ishr, 1) := by decide +kernel
theorem dX10_hasAnswer_12 : decode cX10_hasAnswer 12 = .ok (.iconst 1, 1) := by decide +kernel
theorem dX10_hasAnswer_13 : decode cX10_hasAnswer 13 = .ok (.iand, 1) := by decide +kernel
theorem dX10_hasAnswer_14 : decode cX10_hasAnswer 14 = .ok (.ifCond .ne 7, 3) := by decide +kernel
theorem dX10_hasAnswer_17 : decode cX10_hasAnswer 17 = .ok (.iconst 1, 1) := by decide +kernel
theorem dX10_hasAnswer_18 : decode cX10_hasAnswer 18 = .ok (.goto 4, 3) := by decide +kernel
theorem dX10_hasAnswer_21 : decode cX10_hasAnswer 21 = .ok (.iconst 0, 1) := by decide +kernel
theorem dX10_hasAnswer_22 : decode cX10_hasAnswer 22 = .ok (.ireturn, 1) := by decide +kernel
set_option maxRecDepth 20000 in
theorem ggX10_counts_X10_held : GoodIn wsX10_counts wsX10_held := goodIn_r _ [9, 10, 11, 12, 13, 14, 15, 16, 17, 18, 19, 20, 21, 22, 23, 24, 25, 26, 27, 28, 29, 30, 31, 32, 33, 34, 35, 36, 37, 38, 39, 40, 41, 42, 43, 44, 45, 46, 47, 48, 49, 50, 51] (by decide +kernel) (by decide +kernel)
set_option maxRecDepth 20000 in
theorem gX10_counts_X10_held : GoodIn wsX10_counts (wsV RX10 154 RX10 yX10_held wsX10_held) := goodIn_app (goodIn_of _ (by decide +kernel)) ggX10_counts_X10_held
theorem dX10_counts_0 : decode cX10_counts 0 = .ok (.aload_n 0, 1) := by decide +kernel
theorem dX10_counts_1 : decode cX10_counts 1 = .ok (.getfield 84, 3) := by decide +kernel
theorem dX10_counts_4 : decode cX10_counts 4 = .ok (.iload_n 1, 1) := by decide +kernel
theorem dX10_counts_5 : decode cX10_counts 5 = .ok (.iaload, 1) := by decide +kernel
theorem dX10_counts_6 : decode cX10_counts 6 = .ok (.iconst 4, 1) := by decide +kernel
theorem dX10_counts_7 : decode cX10_counts 7 = .ok (.irem, 1) := by decide +kernel
theorem dX10_counts_8 : decode cX10_counts 8 = .ok (.istore_n 2, 1) := by decide +kernel
theorem dX10_counts_9 : decode cX10_counts 9 = .ok (.aload_n 0, 1) := by decide +kernel
theorem dX10_counts_10 : decode cX10_counts 10 = .ok (.getfield 96, 3) := by decide +kernel
theorem dX10_counts_13 : decode cX10_counts 13 = .ok (.iload_n 1, 1) := by decide +kernel
theorem dX10_counts_14 : decode cX10_counts 14 = .ok (.baload, 1) := by decide +kernel
theorem dX10_counts_15 : decode cX10_counts 15 = .ok (.ifCond .ne 29, 3) := by decide +kernel
theorem dX10_counts_18 : decode cX10_counts 18 = .ok (.aload_n 0, 1) := by decide +kernel
theorem dX10_counts_19 : decode cX10_counts 19 = .ok (.getfield 45, 3) := by decide +kernel
theorem dX10_counts_22 : decode cX10_counts 22 = .ok (.aload_n 0, 1) := by decide +kernel
theorem dX10_counts_23 : decode cX10_counts 23 = .ok (.iload_n 2, 1) := by decide +kernel
theorem dX10_counts_24 : decode cX10_counts 24 = .ok (.invokevirtual 154, 3) := by decide +kernel
theorem dX10_counts_27 : decode cX10_counts 27 = .ok (.iaload, 1) := by decide +kernel
theorem dX10_counts_28 : decode cX10_counts 28 = .ok (.aload_n 0, 1) := by decide +kernel
theorem dX10_counts_29 : decode cX10_counts 29 = .ok (.getfield 93, 3) := by decide +kernel
theorem dX10_counts_32 : decode cX10_counts 32 = .ok (.iload_n 1, 1) := by decide +kernel
theorem dX10_counts_33 : decode cX10_counts 33 = .ok (.iaload, 1) := by decide +kernel
theorem dX10_counts_34 : decode cX10_counts 34 = .ok (.iconst (-1), 1) := by decide +kernel
theorem dX10_counts_35 : decode cX10_counts 35 = .ok (.ixor, 1) := by decide +kernel
theorem dX10_counts_36 : decode cX10_counts 36 = .ok (.iand, 1) := by decide +kernel
theorem dX10_counts_37 : decode cX10_counts 37 = .ok (.ifCond .ne 7, 3) := by decide +kernel
theorem dX10_counts_40 : decode cX10_counts 40 = .ok (.iconst 1, 1) := by decide +kernel
theorem dX10_counts_41 : decode cX10_counts 41 = .ok (.goto 4, 3) := by decide +kernel
theorem dX10_counts_44 : decode cX10_counts 44 = .ok (.iconst 0, 1) := by decide +kernel
theorem dX10_counts_45 : decode cX10_counts 45 = .ok (.ireturn, 1) := by decide +kernel
set_option maxRecDepth 20000 in
theorem ggX10_reading_X10_counts : GoodIn wsX10_reading wsX10_counts := goodIn_r _ [8, 2, 9, 10, 11, 12, 13, 14, 7, 15, 16, 17, 18, 19, 20, 21, 22, 23, 24, 25, 26, 27, 28, 29, 30, 31, 32, 33, 34, 35, 36, 37, 38, 39, 40, 41, 42, 43, 44, 45, 46, 47, 48, 49, 50, 51, 52, 53, 54, 55, 56, 57] (by decide +kernel) (by decide +kernel)
set_option maxRecDepth 20000 in
theorem gX10_reading_X10_counts : GoodIn wsX10_reading (wsV RX10 161 RX10 yX10_counts wsX10_counts) := goodIn_app (goodIn_of _ (by decide +kernel)) ggX10_reading_X10_counts
theorem dX10_reading_0 : decode cX10_reading 0 = .ok (.iconst 0, 1) := by decide +kernel
theorem dX10_reading_1 : decode cX10_reading 1 = .ok (.istore 4, 2) := by decide +kernel
theorem dX10_reading_3 : decode cX10_reading 3 = .ok (.iconst 0, 1) := by decide +kernel
theorem dX10_reading_4 : decode cX10_reading 4 = .ok (.istore 5, 2) := by decide +kernel
theorem dX10_reading_6 : decode cX10_reading 6 = .ok (.iload 5, 2) := by decide +kernel
theorem dX10_reading_8 : decode cX10_reading 8 = .ok (.aload_n 0, 1) := by decide +kernel
theorem dX10_reading_9 : decode cX10_reading 9 = .ok (.getfield 158, 3) := by decide +kernel
theorem dX10_reading_12 : decode cX10_reading 12 = .ok (.if_icmp .ge 52, 3) := by decide +kernel
theorem dX10_reading_15 : decode cX10_reading 15 = .ok (.aload_n 0, 1) := by decide +kernel
theorem dX10_reading_16 : decode cX10_reading 16 = .ok (.getfield 84, 3) := by decide +kernel
theorem dX10_reading_19 : decode cX10_reading 19 = .ok (.iload 5, 2) := by decide +kernel
theorem dX10_reading_21 : decode cX10_reading 21 = .ok (.iaload, 1) := by decide +kernel
theorem dX10_reading_22 : decode cX10_reading 22 = .ok (.iload_n 1, 1) := by decide +kernel
theorem dX10_reading_23 : decode cX10_reading 23 = .ok (.if_icmp .ne 35, 3) := by decide +kernel
theorem dX10_reading_26 : decode cX10_reading 26 = .ok (.aload_n 0, 1) := by decide +kernel
theorem dX10_reading_27 : decode cX10_reading 27 = .ok (.getfield 99, 3) := by decide +kernel
theorem dX10_reading_30 : decode cX10_reading 30 = .ok (.iload 5, 2) := by decide +kernel
theorem dX10_reading_32 : decode cX10_reading 32 = .ok (.baload, 1) := by decide +kernel
theorem dX10_reading_33 : decode cX10_reading 33 = .ok (.iload_n 3, 1) := by decide +kernel
theorem dX10_reading_34 : decode cX10_reading 34 = .ok (.if_icmp .ne 24, 3) := by decide +kernel
theorem dX10_reading_37 : decode cX10_reading 37 = .ok (.aload_n 0, 1) := by decide +kernel
theorem dX10_reading_38 : decode cX10_reading 38 = .ok (.iload 5, 2) := by decide +kernel
theorem dX10_reading_40 : decode cX10_reading 40 = .ok (.invokevirtual 161, 3) := by decide +kernel
theorem dX10_reading_43 : decode cX10_reading 43 = .ok (.ifCond .eq 15, 3) := by decide +kernel
theorem dX10_reading_46 : decode cX10_reading 46 = .ok (.iload 4, 2) := by decide +kernel
theorem dX10_reading_48 : decode cX10_reading 48 = .ok (.iload_n 2, 1) := by decide +kernel
theorem dX10_reading_49 : decode cX10_reading 49 = .ok (.if_icmp .ne 6, 3) := by decide +kernel
theorem dX10_reading_52 : decode cX10_reading 52 = .ok (.iload 5, 2) := by decide +kernel
theorem dX10_reading_54 : decode cX10_reading 54 = .ok (.ireturn, 1) := by decide +kernel
theorem dX10_reading_55 : decode cX10_reading 55 = .ok (.iinc 4 1, 3) := by decide +kernel
theorem dX10_reading_58 : decode cX10_reading 58 = .ok (.iinc 5 1, 3) := by decide +kernel
theorem dX10_reading_61 : decode cX10_reading 61 = .ok (.goto (-55), 3) := by decide +kernel
theorem dX10_reading_64 : decode cX10_reading 64 = .ok (.iconst (-1), 1) := by decide +kernel
theorem dX10_reading_65 : decode cX10_reading 65 = .ok (.ireturn, 1) := by decide +kernel
set_option maxRecDepth 20000 in
theorem ggX10_markBy_X10_held : GoodIn wsX10_markBy wsX10_held := goodIn_r _ [7, 8, 20, 21, 22, 23, 24, 25, 26, 27, 28, 29, 30, 31, 32, 33, 34, 35, 36, 37, 38, 39, 40, 41, 42, 43, 44, 45, 46, 47, 48, 49, 50, 51, 52, 53, 54, 55, 56, 57, 58, 59, 60] (by decide +kernel) (by decide +kernel)
set_option maxRecDepth 20000 in
theorem gX10_markBy_X10_held : GoodIn wsX10_markBy (wsV RX10 154 RX10 yX10_held wsX10_held) := goodIn_app (goodIn_of _ (by decide +kernel)) ggX10_markBy_X10_held
set_option maxRecDepth 20000 in
theorem ggX10_markBy_X10_value : GoodIn wsX10_markBy wsX10_value := goodIn_r _ [12, 13, 14, 15, 16, 17, 18, 6, 19, 20, 21, 22, 23, 24, 25, 26, 27, 28, 29, 30, 31, 32, 33, 34, 35, 36, 37, 38, 39, 40, 41, 42, 43, 44, 45, 46, 47, 48, 49, 50, 51, 52, 53, 54, 55, 56, 57, 58, 59, 60] (by decide +kernel) (by decide +kernel)
set_option maxRecDepth 20000 in
theorem gX10_markBy_X10_value : GoodIn wsX10_markBy (wsV RX10 164 RX10 yX10_value wsX10_value) := goodIn_app (goodIn_of _ (by decide +kernel)) ggX10_markBy_X10_value
theorem dX10_markBy_0 : decode cX10_markBy 0 = .ok (.aload_n 0, 1) := by decide +kernel
theorem dX10_markBy_1 : decode cX10_markBy 1 = .ok (.aload_n 0, 1) := by decide +kernel
theorem dX10_markBy_2 : decode cX10_markBy 2 = .ok (.aload_n 0, 1) := by decide +kernel
theorem dX10_markBy_3 : decode cX10_markBy 3 = .ok (.getfield 84, 3) := by decide +kernel
theorem dX10_markBy_6 : decode cX10_markBy 6 = .ok (.iload_n 1, 1) := by decide +kernel
theorem dX10_markBy_7 : decode cX10_markBy 7 = .ok (.iaload, 1) := by decide +kernel
theorem dX10_markBy_8 : decode cX10_markBy 8 = .ok (.iconst 4, 1) := by decide +kernel
theorem dX10_markBy_9 : decode cX10_markBy 9 = .ok (.irem, 1) := by decide +kernel
theorem dX10_markBy_10 : decode cX10_markBy 10 = .ok (.invokevirtual 154, 3) := by decide +kernel
theorem dX10_markBy_13 : decode cX10_markBy 13 = .ok (.aload_n 0, 1) := by decide +kernel
theorem dX10_markBy_14 : decode cX10_markBy 14 = .ok (.getfield 90, 3) := by decide +kernel
theorem dX10_markBy_17 : decode cX10_markBy 17 = .ok (.iload_n 1, 1) := by decide +kernel
theorem dX10_markBy_18 : decode cX10_markBy 18 = .ok (.iaload, 1) := by decide +kernel
theorem dX10_markBy_19 : decode cX10_markBy 19 = .ok (.invokevirtual 164, 3) := by decide +kernel
theorem dX10_markBy_22 : decode cX10_markBy 22 = .ok (.ireturn, 1) := by decide +kernel
set_option maxRecDepth 20000 in
theorem ggX10_third_X10_reading : GoodIn wsX10_third wsX10_reading := goodIn_r _ [7, 8, 9, 10, 11, 12, 13, 6, 14, 15, 16, 17, 18, 19, 20, 21, 22, 23, 24, 25, 26, 27, 28, 29, 30, 31, 32, 33, 34, 35, 36, 37, 38, 39, 40, 41, 42, 43, 44, 45, 46, 47, 48, 49, 50, 51, 52, 53, 54, 55, 56, 57, 58, 59, 60, 61, 62, 63] (by decide +kernel) (by decide +kernel)
set_option maxRecDepth 20000 in
theorem gX10_third_X10_reading : GoodIn wsX10_third (wsV RX10 168 RX10 yX10_reading wsX10_reading) := goodIn_app (goodIn_of _ (by decide +kernel)) ggX10_third_X10_reading
theorem dX10_third_0 : decode cX10_third 0 = .ok (.iconst 2, 1) := by decide +kernel
theorem dX10_third_1 : decode cX10_third 1 = .ok (.istore_n 2, 1) := by decide +kernel
theorem dX10_third_2 : decode cX10_third 2 = .ok (.aload_n 0, 1) := by decide +kernel
theorem dX10_third_3 : decode cX10_third 3 = .ok (.iload_n 1, 1) := by decide +kernel
theorem dX10_third_4 : decode cX10_third 4 = .ok (.iload_n 2, 1) := by decide +kernel
theorem dX10_third_5 : decode cX10_third 5 = .ok (.iconst 0, 1) := by decide +kernel
theorem dX10_third_6 : decode cX10_third 6 = .ok (.invokevirtual 168, 3) := by decide +kernel
theorem dX10_third_9 : decode cX10_third 9 = .ok (.istore_n 3, 1) := by decide +kernel
theorem dX10_third_10 : decode cX10_third 10 = .ok (.iload_n 3, 1) := by decide +kernel
theorem dX10_third_11 : decode cX10_third 11 = .ok (.iconst (-1), 1) := by decide +kernel
theorem dX10_third_12 : decode cX10_third 12 = .ok (.if_icmp .eq 31, 3) := by decide +kernel
theorem dX10_third_15 : decode cX10_third 15 = .ok (.aload_n 0, 1) := by decide +kernel
theorem dX10_third_16 : decode cX10_third 16 = .ok (.getfield 57, 3) := by decide +kernel
theorem dX10_third_19 : decode cX10_third 19 = .ok (.aload_n 0, 1) := by decide +kernel
theorem dX10_third_20 : decode cX10_third 20 = .ok (.getfield 87, 3) := by decide +kernel
theorem dX10_third_23 : decode cX10_third 23 = .ok (.iload_n 3, 1) := by decide +kernel
theorem dX10_third_24 : decode cX10_third 24 = .ok (.iaload, 1) := by decide +kernel
theorem dX10_third_25 : decode cX10_third 25 = .ok (.baload, 1) := by decide +kernel
theorem dX10_third_26 : decode cX10_third 26 = .ok (.ifCond .ne 17, 3) := by decide +kernel
theorem dX10_third_29 : decode cX10_third 29 = .ok (.iinc 2 1, 3) := by decide +kernel
theorem dX10_third_32 : decode cX10_third 32 = .ok (.aload_n 0, 1) := by decide +kernel
theorem dX10_third_33 : decode cX10_third 33 = .ok (.iload_n 1, 1) := by decide +kernel
theorem dX10_third_34 : decode cX10_third 34 = .ok (.iload_n 2, 1) := by decide +kernel
theorem dX10_third_35 : decode cX10_third 35 = .ok (.iconst 0, 1) := by decide +kernel
theorem dX10_third_36 : decode cX10_third 36 = .ok (.invokevirtual 168, 3) := by decide +kernel
theorem dX10_third_39 : decode cX10_third 39 = .ok (.istore_n 3, 1) := by decide +kernel
theorem dX10_third_40 : decode cX10_third 40 = .ok (.goto (-30), 3) := by decide +kernel
theorem dX10_third_43 : decode cX10_third 43 = .ok (.iload_n 3, 1) := by decide +kernel
theorem dX10_third_44 : decode cX10_third 44 = .ok (.ireturn, 1) := by decide +kernel
set_option maxRecDepth 20000 in
theorem ggX10_isApart_X10_reading : GoodIn wsX10_isApart wsX10_reading := goodIn_r _ [6, 7, 8, 9, 10, 11, 12, 5, 13, 14, 15, 16, 17, 18, 19, 20, 21, 41, 42, 43, 44, 45, 46, 47, 48, 49, 50, 51, 52, 53, 54, 55, 56, 57, 58, 59, 60, 61, 62, 63, 64, 65, 66, 67, 68, 69, 70, 71, 72, 73, 74, 75, 76, 77, 78, 79, 80, 81] (by decide +kernel) (by decide +kernel)
set_option maxRecDepth 20000 in
theorem gX10_isApart_X10_reading : GoodIn wsX10_isApart (wsV RX10 168 RX10 yX10_reading wsX10_reading) := goodIn_app (goodIn_of _ (by decide +kernel)) ggX10_isApart_X10_reading
set_option maxRecDepth 20000 in
theorem ggX10_isApart_X10_markBy : GoodIn wsX10_isApart wsX10_markBy := goodIn_r _ [25, 8, 26, 17, 18, 19, 5, 20, 21, 27, 28, 29, 30, 31, 32, 33, 34, 35, 36, 37, 41, 42, 43, 44, 45, 46, 47, 48, 49, 50, 51, 52, 53, 54, 55, 56, 57, 58, 59, 60, 61, 62, 63, 64, 65, 66, 67, 68, 69, 70, 71, 72, 73, 74, 75, 76, 77, 78, 79, 80, 81] (by decide +kernel) (by decide +kernel)
set_option maxRecDepth 20000 in
theorem gX10_isApart_X10_markBy : GoodIn wsX10_isApart (wsV RX10 172 RX10 yX10_markBy wsX10_markBy) := goodIn_app (goodIn_of _ (by decide +kernel)) ggX10_isApart_X10_markBy
set_option maxRecDepth 20000 in
theorem ggX10_isApart_X10_apart : GoodIn wsX10_isApart wsX10_apart := goodIn_r _ [40] (by decide +kernel) (by decide +kernel)
set_option maxRecDepth 20000 in
theorem gX10_isApart_X10_apart : GoodIn wsX10_isApart (va_wsS RX10 175 yX10_apart wsX10_apart) := goodIn_app (goodIn_of _ (by decide +kernel)) ggX10_isApart_X10_apart
theorem dX10_isApart_0 : decode cX10_isApart 0 = .ok (.aload_n 0, 1) := by decide +kernel
theorem dX10_isApart_1 : decode cX10_isApart 1 = .ok (.aload_n 0, 1) := by decide +kernel
theorem dX10_isApart_2 : decode cX10_isApart 2 = .ok (.iload_n 1, 1) := by decide +kernel
theorem dX10_isApart_3 : decode cX10_isApart 3 = .ok (.iconst 0, 1) := by decide +kernel
theorem dX10_isApart_4 : decode cX10_isApart 4 = .ok (.iconst 0, 1) := by decide +kernel
theorem dX10_isApart_5 : decode cX10_isApart 5 = .ok (.invokevirtual 168, 3) := by decide +kernel
theorem dX10_isApart_8 : decode cX10_isApart 8 = .ok (.invokevirtual 172, 3) := by decide +kernel
theorem dX10_isApart_11 : decode cX10_isApart 11 = .ok (.aload_n 0, 1) := by decide +kernel
theorem dX10_isApart_12 : decode cX10_isApart 12 = .ok (.aload_n 0, 1) := by decide +kernel
theorem dX10_isApart_13 : decode cX10_isApart 13 = .ok (.iload_n 1, 1) := by decide +kernel
theorem dX10_isApart_14 : decode cX10_isApart 14 = .ok (.iconst 1, 1) := by decide +kernel
theorem dX10_isApart_15 : decode cX10_isApart 15 = .ok (.iconst 0, 1) := by decide +kernel
theorem dX10_isApart_16 : decode cX10_isApart 16 = .ok (.invokevirtual 168, 3) := by decide +kernel
theorem dX10_isApart_19 : decode cX10_isApart 19 = .ok (.invokevirtual 172, 3) := by decide +kernel
theorem dX10_isApart_22 : decode cX10_isApart 22 = .ok (.invokestatic 175, 3) := by decide +kernel
theorem dX10_isApart_25 : decode cX10_isApart 25 = .ok (.aload_n 0, 1) := by decide +kernel
theorem dX10_isApart_26 : decode cX10_isApart 26 = .ok (.getfield 13, 3) := by decide +kernel
theorem dX10_isApart_29 : decode cX10_isApart 29 = .ok (.if_icmp .le 7, 3) := by decide +kernel
theorem dX10_isApart_32 : decode cX10_isApart 32 = .ok (.iconst 1, 1) := by decide +kernel
theorem dX10_isApart_33 : decode cX10_isApart 33 = .ok (.goto 4, 3) := by decide +kernel
theorem dX10_isApart_36 : decode cX10_isApart 36 = .ok (.iconst 0, 1) := by decide +kernel
theorem dX10_isApart_37 : decode cX10_isApart 37 = .ok (.ireturn, 1) := by decide +kernel
set_option maxRecDepth 20000 in
theorem ggX10_wantsFirst_X10_reading : GoodIn wsX10_wantsFirst wsX10_reading := goodIn_r _ [6, 7, 8, 9, 10, 11, 12, 5, 13, 14, 15, 16, 17, 18, 19, 20, 21, 52, 53, 54, 55, 56, 57, 58, 59, 60, 61, 62, 63, 64, 65, 66, 67, 68, 69, 70, 71, 72, 73, 74, 75, 76, 77, 78, 79, 80, 81, 82, 83, 84, 85, 86, 87, 88, 89, 90, 91, 92] (by decide +kernel) (by decide +kernel)
set_option maxRecDepth 20000 in
theorem gX10_wantsFirst_X10_reading : GoodIn wsX10_wantsFirst (wsV RX10 168 RX10 yX10_reading wsX10_reading) := goodIn_app (goodIn_of _ (by decide +kernel)) ggX10_wantsFirst_X10_reading
set_option maxRecDepth 20000 in
theorem ggX10_wantsFirst_X10_isApart : GoodIn wsX10_wantsFirst wsX10_isApart := goodIn_r _ [25, 26, 2, 3, 4, 5, 6, 7, 8, 9, 10, 11, 12, 13, 14, 15, 16, 17, 18, 19, 20, 21, 27, 28, 29, 30, 31, 32, 33, 34, 35, 36, 37, 38, 39, 40, 41, 42, 43, 44, 45, 52, 53, 54, 55, 56, 57, 58, 59, 60, 61, 62, 63, 64, 65, 66, 67, 68, 69, 70, 71, 72, 73, 74, 75, 76, 77, 78, 79, 80, 81, 82, 83, 84, 85, 86, 87, 88, 89, 90, 91, 92] (by decide +kernel) (by decide +kernel)
set_option maxRecDepth 20000 in
theorem gX10_wantsFirst_X10_isApart : GoodIn wsX10_wantsFirst (wsV RX10 178 RX10 yX10_isApart wsX10_isApart) := goodIn_app (goodIn_of _ (by decide +kernel)) ggX10_wantsFirst_X10_isApart
set_option maxRecDepth 20000 in
theorem ggX10_wantsFirst_X10_third : GoodIn wsX10_wantsFirst wsX10_third := goodIn_r _ [49, 50, 51, 2, 3, 4, 5, 6, 7, 8, 9, 10, 11, 12, 13, 14, 15, 16, 17, 18, 19, 20, 21, 52, 53, 54, 55, 56, 57, 58, 59, 60, 61, 62, 63, 64, 65, 66, 67, 68, 69, 70, 71, 72, 73, 74, 75, 76, 77, 78, 79, 80, 81, 82, 83, 84, 85, 86, 87, 88, 89, 90, 91, 92] (by decide +kernel) (by decide +kernel)
set_option maxRecDepth 20000 in
theorem gX10_wantsFirst_X10_third : GoodIn wsX10_wantsFirst (wsV RX10 181 RX10 yX10_third wsX10_third) := goodIn_app (goodIn_of _ (by decide +kernel)) ggX10_wantsFirst_X10_third
theorem dX10_wantsFirst_0 : decode cX10_wantsFirst 0 = .ok (.aload_n 0, 1) := by decide +kernel
theorem dX10_wantsFirst_1 : decode cX10_wantsFirst 1 = .ok (.getfield 48, 3) := by decide +kernel
theorem dX10_wantsFirst_4 : decode cX10_wantsFirst 4 = .ok (.iload_n 1, 1) := by decide +kernel
theorem dX10_wantsFirst_5 : decode cX10_wantsFirst 5 = .ok (.iconst 4, 1) := by decide +kernel
theorem dX10_wantsFirst_6 : decode cX10_wantsFirst 6 = .ok (.irem, 1) := by decide +kernel
theorem dX10_wantsFirst_7 : decode cX10_wantsFirst 7 = .ok (.baload, 1) := by decide +kernel
theorem dX10_wantsFirst_8 : decode cX10_wantsFirst 8 = .ok (.ifCond .eq 7, 3) := by decide +kernel
theorem dX10_wantsFirst_11 : decode cX10_wantsFirst 11 = .ok (.iconst 2, 1) := by decide +kernel
theorem dX10_wantsFirst_12 : decode cX10_wantsFirst 12 = .ok (.goto 4, 3) := by decide +kernel
theorem dX10_wantsFirst_15 : decode cX10_wantsFirst 15 = .ok (.iconst 1, 1) := by decide +kernel
theorem dX10_wantsFirst_16 : decode cX10_wantsFirst 16 = .ok (.istore_n 2, 1) := by decide +kernel
theorem dX10_wantsFirst_17 : decode cX10_wantsFirst 17 = .ok (.iconst 0, 1) := by decide +kernel
theorem dX10_wantsFirst_18 : decode cX10_wantsFirst 18 = .ok (.istore_n 3, 1) := by decide +kernel
theorem dX10_wantsFirst_19 : decode cX10_wantsFirst 19 = .ok (.iload_n 3, 1) := by decide +kernel
theorem dX10_wantsFirst_20 : decode cX10_wantsFirst 20 = .ok (.iload_n 2, 1) := by decide +kernel
theorem dX10_wantsFirst_21 : decode cX10_wantsFirst 21 = .ok (.if_icmp .ge 20, 3) := by decide +kernel
theorem dX10_wantsFirst_24 : decode cX10_wantsFirst 24 = .ok (.aload_n 0, 1) := by decide +kernel
theorem dX10_wantsFirst_25 : decode cX10_wantsFirst 25 = .ok (.iload_n 1, 1) := by decide +kernel
theorem dX10_wantsFirst_26 : decode cX10_wantsFirst 26 = .ok (.iload_n 3, 1) := by decide +kernel
theorem dX10_wantsFirst_27 : decode cX10_wantsFirst 27 = .ok (.iconst 0, 1) := by decide +kernel
theorem dX10_wantsFirst_28 : decode cX10_wantsFirst 28 = .ok (.invokevirtual 168, 3) := by decide +kernel
theorem dX10_wantsFirst_31 : decode cX10_wantsFirst 31 = .ok (.iconst (-1), 1) := by decide +kernel
theorem dX10_wantsFirst_32 : decode cX10_wantsFirst 32 = .ok (.if_icmp .eq 9, 3) := by decide +kernel
theorem dX10_wantsFirst_35 : decode cX10_wantsFirst 35 = .ok (.iinc 3 1, 3) := by decide +kernel
theorem dX10_wantsFirst_38 : decode cX10_wantsFirst 38 = .ok (.goto (-19), 3) := by decide +kernel
theorem dX10_wantsFirst_41 : decode cX10_wantsFirst 41 = .ok (.iload_n 3, 1) := by decide +kernel
theorem dX10_wantsFirst_42 : decode cX10_wantsFirst 42 = .ok (.iload_n 2, 1) := by decide +kernel
theorem dX10_wantsFirst_43 : decode cX10_wantsFirst 43 = .ok (.if_icmp .ge 9, 3) := by decide +kernel
theorem dX10_wantsFirst_46 : decode cX10_wantsFirst 46 = .ok (.iload_n 2, 1) := by decide +kernel
theorem dX10_wantsFirst_47 : decode cX10_wantsFirst 47 = .ok (.iload_n 3, 1) := by decide +kernel
theorem dX10_wantsFirst_48 : decode cX10_wantsFirst 48 = .ok (.isub, 1) := by decide +kernel
theorem dX10_wantsFirst_49 : decode cX10_wantsFirst 49 = .ok (.goto 30, 3) := by decide +kernel
theorem dX10_wantsFirst_52 : decode cX10_wantsFirst 52 = .ok (.iload_n 2, 1) := by decide +kernel
theorem dX10_wantsFirst_53 : decode cX10_wantsFirst 53 = .ok (.iconst 2, 1) := by decide +kernel
theorem dX10_wantsFirst_54 : decode cX10_wantsFirst 54 = .ok (.if_icmp .ne 24, 3) := by decide +kernel
theorem dX10_wantsFirst_57 : decode cX10_wantsFirst 57 = .ok (.aload_n 0, 1) := by decide +kernel
theorem dX10_wantsFirst_58 : decode cX10_wantsFirst 58 = .ok (.iload_n 1, 1) := by decide +kernel
theorem dX10_wantsFirst_59 : decode cX10_wantsFirst 59 = .ok (.invokevirtual 178, 3) := by decide +kernel
theorem dX10_wantsFirst_62 : decode cX10_wantsFirst 62 = .ok (.ifCond .eq 16, 3) := by decide +kernel
theorem dX10_wantsFirst_65 : decode cX10_wantsFirst 65 = .ok (.aload_n 0, 1) := by decide +kernel
theorem dX10_wantsFirst_66 : decode cX10_wantsFirst 66 = .ok (.iload_n 1, 1) := by decide +kernel
theorem dX10_wantsFirst_67 : decode cX10_wantsFirst 67 = .ok (.invokevirtual 181, 3) := by decide +kernel
theorem dX10_wantsFirst_70 : decode cX10_wantsFirst 70 = .ok (.iconst (-1), 1) := by decide +kernel
theorem dX10_wantsFirst_71 : decode cX10_wantsFirst 71 = .ok (.if_icmp .ne 7, 3) := by decide +kernel
theorem dX10_wantsFirst_74 : decode cX10_wantsFirst 74 = .ok (.iconst 1, 1) := by decide +kernel
theorem dX10_wantsFirst_75 : decode cX10_wantsFirst 75 = .ok (.goto 4, 3) := by decide +kernel
theorem dX10_wantsFirst_78 : decode cX10_wantsFirst 78 = .ok (.iconst 0, 1) := by decide +kernel
theorem dX10_wantsFirst_79 : decode cX10_wantsFirst 79 = .ok (.ireturn, 1) := by decide +kernel
set_option maxRecDepth 20000 in
theorem ggX10_wants_X10_hasAnswer : GoodIn wsX10_wants wsX10_hasAnswer := goodIn_r _ [6, 7, 62, 63, 64, 65, 66, 67, 68, 69, 70, 71, 72, 73, 74, 75, 76, 77, 78, 79, 80, 81, 82, 83, 84, 85, 86, 87, 88, 89, 90, 91, 92, 93, 94, 95, 96, 97, 98, 99, 100, 101, 102] (by decide +kernel) (by decide +kernel)
set_option maxRecDepth 20000 in
theorem gX10_wants_X10_hasAnswer : GoodIn wsX10_wants (wsV RX10 184 RX10 yX10_hasAnswer wsX10_hasAnswer) := goodIn_app (goodIn_of _ (by decide +kernel)) ggX10_wants_X10_hasAnswer
set_option maxRecDepth 20000 in
theorem ggX10_wants_X10_wantsFirst : GoodIn wsX10_wants wsX10_wantsFirst := goodIn_r _ [11, 12, 13, 14, 15, 5, 16, 17, 18, 19, 20, 21, 22, 23, 24, 25, 26, 27, 28, 29, 30, 31, 32, 33, 34, 35, 36, 37, 38, 39, 40, 41, 42, 43, 44, 45, 46, 47, 48, 49, 50, 51, 52, 53, 54, 55, 56, 57, 58, 59, 60, 61, 62, 63, 64, 65, 66, 67, 68, 69, 70, 71, 72, 73, 74, 75, 76, 77, 78, 79, 80, 81, 82, 83, 84, 85, 86, 87, 88, 89, 90, 91, 92, 93, 94, 95, 96, 97, 98, 99, 100, 101, 102] (by decide +kernel) (by decide +kernel)
set_option maxRecDepth 20000 in
theorem gX10_wants_X10_wantsFirst : GoodIn wsX10_wants (wsV RX10 187 RX10 yX10_wantsFirst wsX10_wantsFirst) := goodIn_app (goodIn_of _ (by decide +kernel)) ggX10_wants_X10_wantsFirst
set_option maxRecDepth 20000 in
theorem ggX10_wants_X10_reading : GoodIn wsX10_wants wsX10_reading := goodIn_r _ [16, 17, 18, 19, 20, 21, 22, 5, 23, 24, 25, 26, 27, 28, 29, 30, 31, 62, 63, 64, 65, 66, 67, 68, 69, 70, 71, 72, 73, 74, 75, 76, 77, 78, 79, 80, 81, 82, 83, 84, 85, 86, 87, 88, 89, 90, 91, 92, 93, 94, 95, 96, 97, 98, 99, 100, 101, 102] (by decide +kernel) (by decide +kernel)
set_option maxRecDepth 20000 in
theorem gX10_wants_X10_reading : GoodIn wsX10_wants (wsV RX10 168 RX10 yX10_reading wsX10_reading) := goodIn_app (goodIn_of _ (by decide +kernel)) ggX10_wants_X10_reading
theorem dX10_wants_0 : decode cX10_wants 0 = .ok (.aload_n 0, 1) := by decide +kernel
theorem dX10_wants_1 : decode cX10_wants 1 = .ok (.iload_n 1, 1) := by decide +kernel
theorem dX10_wants_2 : decode cX10_wants 2 = .ok (.invokevirtual 184, 3) := by decide +kernel
theorem dX10_wants_5 : decode cX10_wants 5 = .ok (.ifCond .eq 11, 3) := by decide +kernel
theorem dX10_wants_8 : decode cX10_wants 8 = .ok (.aload_n 0, 1) := by decide +kernel
theorem dX10_wants_9 : decode cX10_wants 9 = .ok (.iload_n 1, 1) := by decide +kernel
theorem dX10_wants_10 : decode cX10_wants 10 = .ok (.invokevirtual 187, 3) := by decide +kernel
theorem dX10_wants_13 : decode cX10_wants 13 = .ok (.goto 4, 3) := by decide +kernel
theorem dX10_wants_16 : decode cX10_wants 16 = .ok (.iconst 0, 1) := by decide +kernel
theorem dX10_wants_17 : decode cX10_wants 17 = .ok (.istore_n 2, 1) := by decide +kernel
theorem dX10_wants_18 : decode cX10_wants 18 = .ok (.iload_n 2, 1) := by decide +kernel
theorem dX10_wants_19 : decode cX10_wants 19 = .ok (.ifCond .ne 27, 3) := by decide +kernel
theorem dX10_wants_22 : decode cX10_wants 22 = .ok (.aload_n 0, 1) := by decide +kernel
theorem dX10_wants_23 : decode cX10_wants 23 = .ok (.getfield 30, 3) := by decide +kernel
theorem dX10_wants_26 : decode cX10_wants 26 = .ok (.iload_n 1, 1) := by decide +kernel
theorem dX10_wants_27 : decode cX10_wants 27 = .ok (.baload, 1) := by decide +kernel
theorem dX10_wants_28 : decode cX10_wants 28 = .ok (.ifCond .eq 18, 3) := by decide +kernel
theorem dX10_wants_31 : decode cX10_wants 31 = .ok (.aload_n 0, 1) := by decide +kernel
theorem dX10_wants_32 : decode cX10_wants 32 = .ok (.iload_n 1, 1) := by decide +kernel
theorem dX10_wants_33 : decode cX10_wants 33 = .ok (.iconst 0, 1) := by decide +kernel
theorem dX10_wants_34 : decode cX10_wants 34 = .ok (.iconst 1, 1) := by decide +kernel
theorem dX10_wants_35 : decode cX10_wants 35 = .ok (.invokevirtual 168, 3) := by decide +kernel
theorem dX10_wants_38 : decode cX10_wants 38 = .ok (.iconst (-1), 1) := by decide +kernel
theorem dX10_wants_39 : decode cX10_wants 39 = .ok (.if_icmp .ne 7, 3) := by decide +kernel
theorem dX10_wants_42 : decode cX10_wants 42 = .ok (.iconst 1, 1) := by decide +kernel
theorem dX10_wants_43 : decode cX10_wants 43 = .ok (.goto 4, 3) := by decide +kernel
theorem dX10_wants_46 : decode cX10_wants 46 = .ok (.iload_n 2, 1) := by decide +kernel
theorem dX10_wants_47 : decode cX10_wants 47 = .ok (.ireturn, 1) := by decide +kernel
set_option maxRecDepth 20000 in
theorem ggX10_wantsAppeal_X10_wantsFirst : GoodIn wsX10_wantsAppeal wsX10_wantsFirst := goodIn_r _ [5, 6, 7, 8, 9, 4, 10, 11, 12, 13, 14, 15, 16, 17, 18, 19, 20, 21, 22, 23, 24, 25, 26, 27, 28, 29, 30, 31, 32, 33, 34, 35, 36, 37, 38, 39, 40, 41, 42, 43, 44, 45, 46, 47, 48, 49, 50, 51, 52, 53, 54, 55, 56, 57, 58, 59, 60, 61, 62, 63, 64, 65, 66, 67, 68, 69, 70, 71, 72, 73, 74, 75, 76, 77, 78, 79, 80, 81, 82, 83, 84, 85, 86, 87, 88, 89, 90, 91, 92, 93, 94, 95, 96] (by decide +kernel) (by decide +kernel)
set_option maxRecDepth 20000 in
theorem gX10_wantsAppeal_X10_wantsFirst : GoodIn wsX10_wantsAppeal (wsV RX10 187 RX10 yX10_wantsFirst wsX10_wantsFirst) := goodIn_app (goodIn_of _ (by decide +kernel)) ggX10_wantsAppeal_X10_wantsFirst
theorem dX10_wantsAppeal_0 : decode cX10_wantsAppeal 0 = .ok (.aload_n 0, 1) := by decide +kernel
theorem dX10_wantsAppeal_1 : decode cX10_wantsAppeal 1 = .ok (.iload_n 1, 1) := by decide +kernel
theorem dX10_wantsAppeal_2 : decode cX10_wantsAppeal 2 = .ok (.invokevirtual 187, 3) := by decide +kernel
theorem dX10_wantsAppeal_5 : decode cX10_wantsAppeal 5 = .ok (.ifCond .ne 7, 3) := by decide +kernel
theorem dX10_wantsAppeal_8 : decode cX10_wantsAppeal 8 = .ok (.iconst 1, 1) := by decide +kernel
theorem dX10_wantsAppeal_9 : decode cX10_wantsAppeal 9 = .ok (.goto 4, 3) := by decide +kernel
theorem dX10_wantsAppeal_12 : decode cX10_wantsAppeal 12 = .ok (.iconst 0, 1) := by decide +kernel
theorem dX10_wantsAppeal_13 : decode cX10_wantsAppeal 13 = .ok (.ireturn, 1) := by decide +kernel
set_option maxRecDepth 20000 in
theorem ggX10_wantsSenior_X10_wantsAppeal : GoodIn wsX10_wantsSenior wsX10_wantsAppeal := goodIn_r _ [6, 7, 8, 9, 5, 10, 1, 11, 12, 13, 14, 15, 16, 17, 18, 19, 20, 21, 22, 23, 24, 25, 26, 27, 28, 29, 30, 31, 32, 33, 34, 35, 36, 37, 38, 39, 40, 41, 42, 43, 44, 45, 46, 47, 48, 49, 50, 51, 52, 53, 54, 55, 56, 57, 58, 59, 60, 61, 62, 63, 64, 65, 66, 67, 68, 69, 70, 71, 72, 73, 74, 75, 76, 77, 78, 79, 80, 81, 82, 83, 84, 85, 86, 87, 88, 89, 90, 91, 92, 93, 94, 95, 96, 97, 98, 99, 100] (by decide +kernel) (by decide +kernel)
set_option maxRecDepth 20000 in
theorem gX10_wantsSenior_X10_wantsAppeal : GoodIn wsX10_wantsSenior (wsV RX10 190 RX10 yX10_wantsAppeal wsX10_wantsAppeal) := goodIn_app (goodIn_of _ (by decide +kernel)) ggX10_wantsSenior_X10_wantsAppeal
set_option maxRecDepth 20000 in
theorem ggX10_wantsSenior_X10_reading : GoodIn wsX10_wantsSenior wsX10_reading := goodIn_r _ [14, 15, 16, 17, 18, 19, 20, 5, 21, 22, 23, 24, 25, 26, 27, 28, 29, 60, 61, 62, 63, 64, 65, 66, 67, 68, 69, 70, 71, 72, 73, 74, 75, 76, 77, 78, 79, 80, 81, 82, 83, 84, 85, 86, 87, 88, 89, 90, 91, 92, 93, 94, 95, 96, 97, 98, 99, 100] (by decide +kernel) (by decide +kernel)
set_option maxRecDepth 20000 in
theorem gX10_wantsSenior_X10_reading : GoodIn wsX10_wantsSenior (wsV RX10 168 RX10 yX10_reading wsX10_reading) := goodIn_app (goodIn_of _ (by decide +kernel)) ggX10_wantsSenior_X10_reading
theorem dX10_wantsSenior_0 : decode cX10_wantsSenior 0 = .ok (.aload_n 0, 1) := by decide +kernel
theorem dX10_wantsSenior_1 : decode cX10_wantsSenior 1 = .ok (.iload_n 1, 1) := by decide +kernel
theorem dX10_wantsSenior_2 : decode cX10_wantsSenior 2 = .ok (.invokevirtual 190, 3) := by decide +kernel
theorem dX10_wantsSenior_5 : decode cX10_wantsSenior 5 = .ok (.ifCond .ne 25, 3) := by decide +kernel
theorem dX10_wantsSenior_8 : decode cX10_wantsSenior 8 = .ok (.aload_n 0, 1) := by decide +kernel
theorem dX10_wantsSenior_9 : decode cX10_wantsSenior 9 = .ok (.getfield 48, 3) := by decide +kernel
theorem dX10_wantsSenior_12 : decode cX10_wantsSenior 12 = .ok (.iload_n 1, 1) := by decide +kernel
theorem dX10_wantsSenior_13 : decode cX10_wantsSenior 13 = .ok (.iconst 4, 1) := by decide +kernel
theorem dX10_wantsSenior_14 : decode cX10_wantsSenior 14 = .ok (.irem, 1) := by decide +kernel
theorem dX10_wantsSenior_15 : decode cX10_wantsSenior 15 = .ok (.baload, 1) := by decide +kernel
theorem dX10_wantsSenior_16 : decode cX10_wantsSenior 16 = .ok (.ifCond .eq 18, 3) := by decide +kernel
theorem dX10_wantsSenior_19 : decode cX10_wantsSenior 19 = .ok (.aload_n 0, 1) := by decide +kernel
theorem dX10_wantsSenior_20 : decode cX10_wantsSenior 20 = .ok (.iload_n 1, 1) := by decide +kernel
theorem dX10_wantsSenior_21 : decode cX10_wantsSenior 21 = .ok (.iconst 1, 1) := by decide +kernel
theorem dX10_wantsSenior_22 : decode cX10_wantsSenior 22 = .ok (.iconst 0, 1) := by decide +kernel
theorem dX10_wantsSenior_23 : decode cX10_wantsSenior 23 = .ok (.invokevirtual 168, 3) := by decide +kernel
theorem dX10_wantsSenior_26 : decode cX10_wantsSenior 26 = .ok (.iconst (-1), 1) := by decide +kernel
theorem dX10_wantsSenior_27 : decode cX10_wantsSenior 27 = .ok (.if_icmp .eq 7, 3) := by decide +kernel
theorem dX10_wantsSenior_30 : decode cX10_wantsSenior 30 = .ok (.iconst 1, 1) := by decide +kernel
theorem dX10_wantsSenior_31 : decode cX10_wantsSenior 31 = .ok (.goto 4, 3) := by decide +kernel
theorem dX10_wantsSenior_34 : decode cX10_wantsSenior 34 = .ok (.iconst 0, 1) := by decide +kernel
theorem dX10_wantsSenior_35 : decode cX10_wantsSenior 35 = .ok (.ireturn, 1) := by decide +kernel
set_option maxRecDepth 20000 in
theorem ggX10_canGive_X10_hasAnswer : GoodIn wsX10_canGive wsX10_hasAnswer := goodIn_r _ [15, 16, 79, 80, 81, 82, 83, 84, 85, 86, 87, 88, 89, 90, 91, 92, 93, 94, 95, 96, 97, 98, 99, 100, 101, 102, 103, 104, 105, 106, 107, 108, 109, 110, 111, 112, 113, 114, 115, 116, 117, 118, 119] (by decide +kernel) (by decide +kernel)
set_option maxRecDepth 20000 in
theorem gX10_canGive_X10_hasAnswer : GoodIn wsX10_canGive (wsV RX10 184 RX10 yX10_hasAnswer wsX10_hasAnswer) := goodIn_app (goodIn_of _ (by decide +kernel)) ggX10_canGive_X10_hasAnswer
set_option maxRecDepth 20000 in
theorem ggX10_canGive_X10_counts : GoodIn wsX10_canGive wsX10_counts := goodIn_r _ [20, 8, 21, 22, 23, 24, 25, 26, 14, 27, 4, 79, 80, 81, 82, 83, 84, 85, 86, 87, 88, 89, 90, 91, 92, 93, 94, 95, 96, 97, 98, 99, 100, 101, 102, 103, 104, 105, 106, 107, 108, 109, 110, 111, 112, 113, 114, 115, 116, 117, 118, 119] (by decide +kernel) (by decide +kernel)
set_option maxRecDepth 20000 in
theorem gX10_canGive_X10_counts : GoodIn wsX10_canGive (wsV RX10 161 RX10 yX10_counts wsX10_counts) := goodIn_app (goodIn_of _ (by decide +kernel)) ggX10_canGive_X10_counts
set_option maxRecDepth 20000 in
theorem ggX10_canGive_X10_wants : GoodIn wsX10_canGive wsX10_wants := goodIn_r _ [31, 32, 11, 12, 13, 14, 15, 16, 33, 34, 35, 36, 37, 38, 39, 40, 41, 7, 8, 42, 17, 18, 19, 20, 21, 22, 23, 24, 25, 26, 27, 4, 43, 44, 45, 46, 47, 48, 49, 50, 51, 52, 53, 54, 55, 56, 57, 58, 59, 60, 61, 62, 63, 64, 65, 66, 67, 68, 69, 70, 10, 9, 79, 80, 81, 82, 83, 84, 85, 86, 87, 88, 89, 90, 91, 92, 93, 94, 95, 96, 97, 98, 99, 100, 101, 102, 103, 104, 105, 106, 107, 108, 109, 110, 111, 112, 113, 114, 115, 116, 117, 118, 119] (by decide +kernel) (by decide +kernel)
set_option maxRecDepth 20000 in
theorem gX10_canGive_X10_wants : GoodIn wsX10_canGive (wsV RX10 193 RX10 yX10_wants wsX10_wants) := goodIn_app (goodIn_of _ (by decide +kernel)) ggX10_canGive_X10_wants
set_option maxRecDepth 20000 in
theorem ggX10_canGive_X10_wantsSenior : GoodIn wsX10_canGive wsX10_wantsSenior := goodIn_r _ [74, 37, 75, 76, 77, 14, 78, 33, 34, 35, 36, 38, 39, 40, 41, 7, 8, 42, 17, 18, 19, 20, 21, 22, 23, 24, 25, 26, 27, 4, 43, 44, 45, 46, 47, 48, 49, 50, 51, 52, 53, 54, 55, 56, 57, 58, 59, 60, 61, 62, 63, 64, 65, 66, 67, 68, 69, 70, 10, 9, 79, 80, 81, 82, 83, 84, 85, 86, 87, 88, 89, 90, 91, 92, 93, 94, 95, 96, 97, 98, 99, 100, 101, 102, 103, 104, 105, 106, 107, 108, 109, 110, 111, 112, 113, 114, 115, 116, 117, 118, 119] (by decide +kernel) (by decide +kernel)
set_option maxRecDepth 20000 in
theorem gX10_canGive_X10_wantsSenior : GoodIn wsX10_canGive (wsV RX10 196 RX10 yX10_wantsSenior wsX10_wantsSenior) := goodIn_app (goodIn_of _ (by decide +kernel)) ggX10_canGive_X10_wantsSenior
theorem dX10_canGive_0 : decode cX10_canGive 0 = .ok (.iload_n 2, 1) := by decide +kernel
theorem dX10_canGive_1 : decode cX10_canGive 1 = .ok (.iconst 4, 1) := by decide +kernel
theorem dX10_canGive_2 : decode cX10_canGive 2 = .ok (.irem, 1) := by decide +kernel
theorem dX10_canGive_3 : decode cX10_canGive 3 = .ok (.istore_n 3, 1) := by decide +kernel
theorem dX10_canGive_4 : decode cX10_canGive 4 = .ok (.aload_n 0, 1) := by decide +kernel
theorem dX10_canGive_5 : decode cX10_canGive 5 = .ok (.iload_n 2, 1) := by decide +kernel
theorem dX10_canGive_6 : decode cX10_canGive 6 = .ok (.invokevirtual 184, 3) := by decide +kernel
theorem dX10_canGive_9 : decode cX10_canGive 9 = .ok (.ifCond .eq 47, 3) := by decide +kernel
theorem dX10_canGive_12 : decode cX10_canGive 12 = .ok (.aload_n 0, 1) := by decide +kernel
theorem dX10_canGive_13 : decode cX10_canGive 13 = .ok (.getfield 17, 3) := by decide +kernel
theorem dX10_canGive_16 : decode cX10_canGive 16 = .ok (.iload_n 2, 1) := by decide +kernel
theorem dX10_canGive_17 : decode cX10_canGive 17 = .ok (.iconst 4, 1) := by decide +kernel
theorem dX10_canGive_18 : decode cX10_canGive 18 = .ok (.idiv, 1) := by decide +kernel
theorem dX10_canGive_19 : decode cX10_canGive 19 = .ok (.iaload, 1) := by decide +kernel
theorem dX10_canGive_20 : decode cX10_canGive 20 = .ok (.aload_n 0, 1) := by decide +kernel
theorem dX10_canGive_21 : decode cX10_canGive 21 = .ok (.getfield 51, 3) := by decide +kernel
theorem dX10_canGive_24 : decode cX10_canGive 24 = .ok (.iload_n 1, 1) := by decide +kernel
theorem dX10_canGive_25 : decode cX10_canGive 25 = .ok (.iaload, 1) := by decide +kernel
theorem dX10_canGive_26 : decode cX10_canGive 26 = .ok (.if_icmp .eq 30, 3) := by decide +kernel
theorem dX10_canGive_29 : decode cX10_canGive 29 = .ok (.aload_n 0, 1) := by decide +kernel
theorem dX10_canGive_30 : decode cX10_canGive 30 = .ok (.getfield 54, 3) := by decide +kernel
theorem dX10_canGive_33 : decode cX10_canGive 33 = .ok (.iload_n 1, 1) := by decide +kernel
theorem dX10_canGive_34 : decode cX10_canGive 34 = .ok (.iaload, 1) := by decide +kernel
theorem dX10_canGive_35 : decode cX10_canGive 35 = .ok (.iload_n 3, 1) := by decide +kernel
theorem dX10_canGive_36 : decode cX10_canGive 36 = .ok (.ishr, 1) := by decide +kernel
theorem dX10_canGive_37 : decode cX10_canGive 37 = .ok (.iconst 1, 1) := by decide +kernel
theorem dX10_canGive_38 : decode cX10_canGive 38 = .ok (.iand, 1) := by decide +kernel
theorem dX10_canGive_39 : decode cX10_canGive 39 = .ok (.iconst 1, 1) := by decide +kernel
theorem dX10_canGive_40 : decode cX10_canGive 40 = .ok (.if_icmp .ne 16, 3) := by decide +kernel
theorem dX10_canGive_43 : decode cX10_canGive 43 = .ok (.aload_n 0, 1) := by decide +kernel
theorem dX10_canGive_44 : decode cX10_canGive 44 = .ok (.getfield 39, 3) := by decide +kernel
theorem dX10_canGive_47 : decode cX10_canGive 47 = .ok (.iload_n 3, 1) := by decide +kernel
theorem dX10_canGive_48 : decode cX10_canGive 48 = .ok (.iaload, 1) := by decide +kernel
theorem dX10_canGive_49 : decode cX10_canGive 49 = .ok (.ifCond .le 7, 3) := by decide +kernel
theorem dX10_canGive_52 : decode cX10_canGive 52 = .ok (.iconst 1, 1) := by decide +kernel
theorem dX10_canGive_53 : decode cX10_canGive 53 = .ok (.goto 4, 3) := by decide +kernel
theorem dX10_canGive_56 : decode cX10_canGive 56 = .ok (.iconst 0, 1) := by decide +kernel
theorem dX10_canGive_57 : decode cX10_canGive 57 = .ok (.istore 4, 2) := by decide +kernel
theorem dX10_canGive_59 : decode cX10_canGive 59 = .ok (.iload 4, 2) := by decide +kernel
theorem dX10_canGive_61 : decode cX10_canGive 61 = .ok (.ifCond .ne 5, 3) := by decide +kernel
theorem dX10_canGive_64 : decode cX10_canGive 64 = .ok (.iconst 0, 1) := by decide +kernel
theorem dX10_canGive_65 : decode cX10_canGive 65 = .ok (.ireturn, 1) := by decide +kernel
theorem dX10_canGive_66 : decode cX10_canGive 66 = .ok (.iconst 0, 1) := by decide +kernel
theorem dX10_canGive_67 : decode cX10_canGive 67 = .ok (.istore 5, 2) := by decide +kernel
theorem dX10_canGive_69 : decode cX10_canGive 69 = .ok (.iconst 0, 1) := by decide +kernel
theorem dX10_canGive_70 : decode cX10_canGive 70 = .ok (.istore 6, 2) := by decide +kernel
theorem dX10_canGive_72 : decode cX10_canGive 72 = .ok (.iload 6, 2) := by decide +kernel
theorem dX10_canGive_74 : decode cX10_canGive 74 = .ok (.aload_n 0, 1) := by decide +kernel
theorem dX10_canGive_75 : decode cX10_canGive 75 = .ok (.getfield 124, 3) := by decide +kernel
theorem dX10_canGive_78 : decode cX10_canGive 78 = .ok (.if_icmp .ge 30, 3) := by decide +kernel
theorem dX10_canGive_81 : decode cX10_canGive 81 = .ok (.iload 5, 2) := by decide +kernel
theorem dX10_canGive_83 : decode cX10_canGive 83 = .ok (.aload_n 0, 1) := by decide +kernel
theorem dX10_canGive_84 : decode cX10_canGive 84 = .ok (.getfield 63, 3) := by decide +kernel
theorem dX10_canGive_87 : decode cX10_canGive 87 = .ok (.iload 6, 2) := by decide +kernel
theorem dX10_canGive_89 : decode cX10_canGive 89 = .ok (.iaload, 1) := by decide +kernel
theorem dX10_canGive_90 : decode cX10_canGive 90 = .ok (.iload_n 2, 1) := by decide +kernel
theorem dX10_canGive_91 : decode cX10_canGive 91 = .ok (.if_icmp .ne 7, 3) := by decide +kernel
theorem dX10_canGive_94 : decode cX10_canGive 94 = .ok (.iconst 1, 1) := by decide +kernel
theorem dX10_canGive_95 : decode cX10_canGive 95 = .ok (.goto 4, 3) := by decide +kernel
theorem dX10_canGive_98 : decode cX10_canGive 98 = .ok (.iconst 0, 1) := by decide +kernel
theorem dX10_canGive_99 : decode cX10_canGive 99 = .ok (.iadd, 1) := by decide +kernel
theorem dX10_canGive_100 : decode cX10_canGive 100 = .ok (.istore 5, 2) := by decide +kernel
theorem dX10_canGive_102 : decode cX10_canGive 102 = .ok (.iinc 6 1, 3) := by decide +kernel
theorem dX10_canGive_105 : decode cX10_canGive 105 = .ok (.goto (-33), 3) := by decide +kernel
theorem dX10_canGive_108 : decode cX10_canGive 108 = .ok (.iconst 0, 1) := by decide +kernel
theorem dX10_canGive_109 : decode cX10_canGive 109 = .ok (.istore 6, 2) := by decide +kernel
theorem dX10_canGive_111 : decode cX10_canGive 111 = .ok (.iload 6, 2) := by decide +kernel
theorem dX10_canGive_113 : decode cX10_canGive 113 = .ok (.aload_n 0, 1) := by decide +kernel
theorem dX10_canGive_114 : decode cX10_canGive 114 = .ok (.getfield 158, 3) := by decide +kernel
theorem dX10_canGive_117 : decode cX10_canGive 117 = .ok (.if_icmp .ge 52, 3) := by decide +kernel
theorem dX10_canGive_120 : decode cX10_canGive 120 = .ok (.iload 4, 2) := by decide +kernel
theorem dX10_canGive_122 : decode cX10_canGive 122 = .ok (.ifCond .eq 38, 3) := by decide +kernel
theorem dX10_canGive_125 : decode cX10_canGive 125 = .ok (.aload_n 0, 1) := by decide +kernel
theorem dX10_canGive_126 : decode cX10_canGive 126 = .ok (.getfield 84, 3) := by decide +kernel
theorem dX10_canGive_129 : decode cX10_canGive 129 = .ok (.iload 6, 2) := by decide +kernel
theorem dX10_canGive_131 : decode cX10_canGive 131 = .ok (.iaload, 1) := by decide +kernel
theorem dX10_canGive_132 : decode cX10_canGive 132 = .ok (.iload_n 2, 1) := by decide +kernel
theorem dX10_canGive_133 : decode cX10_canGive 133 = .ok (.if_icmp .ne 23, 3) := by decide +kernel
theorem dX10_canGive_136 : decode cX10_canGive 136 = .ok (.aload_n 0, 1) := by decide +kernel
theorem dX10_canGive_137 : decode cX10_canGive 137 = .ok (.getfield 87, 3) := by decide +kernel
theorem dX10_canGive_140 : decode cX10_canGive 140 = .ok (.iload 6, 2) := by decide +kernel
theorem dX10_canGive_142 : decode cX10_canGive 142 = .ok (.iaload, 1) := by decide +kernel
theorem dX10_canGive_143 : decode cX10_canGive 143 = .ok (.iload_n 1, 1) := by decide +kernel
theorem dX10_canGive_144 : decode cX10_canGive 144 = .ok (.if_icmp .ne 12, 3) := by decide +kernel
theorem dX10_canGive_147 : decode cX10_canGive 147 = .ok (.aload_n 0, 1) := by decide +kernel
theorem dX10_canGive_148 : decode cX10_canGive 148 = .ok (.iload 6, 2) := by decide +kernel
theorem dX10_canGive_150 : decode cX10_canGive 150 = .ok (.invokevirtual 161, 3) := by decide +kernel
theorem dX10_canGive_153 : decode cX10_canGive 153 = .ok (.ifCond .ne 7, 3) := by decide +kernel
theorem dX10_canGive_156 : decode cX10_canGive 156 = .ok (.iconst 1, 1) := by decide +kernel
theorem dX10_canGive_157 : decode cX10_canGive 157 = .ok (.goto 4, 3) := by decide +kernel
theorem dX10_canGive_160 : decode cX10_canGive 160 = .ok (.iconst 0, 1) := by decide +kernel
theorem dX10_canGive_161 : decode cX10_canGive 161 = .ok (.istore 4, 2) := by decide +kernel
theorem dX10_canGive_163 : decode cX10_canGive 163 = .ok (.iinc 6 1, 3) := by decide +kernel
theorem dX10_canGive_166 : decode cX10_canGive 166 = .ok (.goto (-55), 3) := by decide +kernel
theorem dX10_canGive_169 : decode cX10_canGive 169 = .ok (.aload_n 0, 1) := by decide +kernel
theorem dX10_canGive_170 : decode cX10_canGive 170 = .ok (.iload_n 2, 1) := by decide +kernel
theorem dX10_canGive_171 : decode cX10_canGive 171 = .ok (.invokevirtual 193, 3) := by decide +kernel
theorem dX10_canGive_174 : decode cX10_canGive 174 = .ok (.istore 6, 2) := by decide +kernel
theorem dX10_canGive_176 : decode cX10_canGive 176 = .ok (.iload 4, 2) := by decide +kernel
theorem dX10_canGive_178 : decode cX10_canGive 178 = .ok (.ifCond .eq 31, 3) := by decide +kernel
theorem dX10_canGive_181 : decode cX10_canGive 181 = .ok (.iload 6, 2) := by decide +kernel
theorem dX10_canGive_183 : decode cX10_canGive 183 = .ok (.iload 5, 2) := by decide +kernel
theorem dX10_canGive_185 : decode cX10_canGive 185 = .ok (.if_icmp .le 24, 3) := by decide +kernel
theorem dX10_canGive_188 : decode cX10_canGive 188 = .ok (.aload_n 0, 1) := by decide +kernel
theorem dX10_canGive_189 : decode cX10_canGive 189 = .ok (.getfield 57, 3) := by decide +kernel
theorem dX10_canGive_192 : decode cX10_canGive 192 = .ok (.iload_n 1, 1) := by decide +kernel
theorem dX10_canGive_193 : decode cX10_canGive 193 = .ok (.baload, 1) := by decide +kernel
theorem dX10_canGive_194 : decode cX10_canGive 194 = .ok (.ifCond .ne 11, 3) := by decide +kernel
theorem dX10_canGive_197 : decode cX10_canGive 197 = .ok (.aload_n 0, 1) := by decide +kernel
theorem dX10_canGive_198 : decode cX10_canGive 198 = .ok (.iload_n 2, 1) := by decide +kernel
theorem dX10_canGive_199 : decode cX10_canGive 199 = .ok (.invokevirtual 196, 3) := by decide +kernel
theorem dX10_canGive_202 : decode cX10_canGive 202 = .ok (.ifCond .ne 7, 3) := by decide +kernel
theorem dX10_canGive_205 : decode cX10_canGive 205 = .ok (.iconst 1, 1) := by decide +kernel
theorem dX10_canGive_206 : decode cX10_canGive 206 = .ok (.goto 4, 3) := by decide +kernel
theorem dX10_canGive_209 : decode cX10_canGive 209 = .ok (.iconst 0, 1) := by decide +kernel
theorem dX10_canGive_210 : decode cX10_canGive 210 = .ok (.ireturn, 1) := by decide +kernel
theorem dX10_handed_0 : decode cX10_handed 0 = .ok (.aload_n 0, 1) := by decide +kernel
theorem dX10_handed_1 : decode cX10_handed 1 = .ok (.getfield 63, 3) := by decide +kernel
theorem dX10_handed_4 : decode cX10_handed 4 = .ok (.iload_n 1, 1) := by decide +kernel
theorem dX10_handed_5 : decode cX10_handed 5 = .ok (.iaload, 1) := by decide +kernel
theorem dX10_handed_6 : decode cX10_handed 6 = .ok (.iconst (-1), 1) := by decide +kernel
theorem dX10_handed_7 : decode cX10_handed 7 = .ok (.if_icmp .ne 7, 3) := by decide +kernel
theorem dX10_handed_10 : decode cX10_handed 10 = .ok (.iconst (-1), 1) := by decide +kernel
theorem dX10_handed_11 : decode cX10_handed 11 = .ok (.goto 55, 3) := by decide +kernel
theorem dX10_handed_14 : decode cX10_handed 14 = .ok (.aload_n 0, 1) := by decide +kernel
theorem dX10_handed_15 : decode cX10_handed 15 = .ok (.getfield 63, 3) := by decide +kernel
theorem dX10_handed_18 : decode cX10_handed 18 = .ok (.iload_n 1, 1) := by decide +kernel
theorem dX10_handed_19 : decode cX10_handed 19 = .ok (.iaload, 1) := by decide +kernel
theorem dX10_handed_20 : decode cX10_handed 20 = .ok (.bipush 100, 2) := by decide +kernel
theorem dX10_handed_22 : decode cX10_handed 22 = .ok (.if_icmp .lt 24, 3) := by decide +kernel
theorem dX10_handed_25 : decode cX10_handed 25 = .ok (.sipush 1000, 3) := by decide +kernel
theorem dX10_handed_28 : decode cX10_handed 28 = .ok (.aload_n 0, 1) := by decide +kernel
theorem dX10_handed_29 : decode cX10_handed 29 = .ok (.getfield 78, 3) := by decide +kernel
theorem dX10_handed_32 : decode cX10_handed 32 = .ok (.aload_n 0, 1) := by decide +kernel
theorem dX10_handed_33 : decode cX10_handed 33 = .ok (.getfield 63, 3) := by decide +kernel
theorem dX10_handed_36 : decode cX10_handed 36 = .ok (.iload_n 1, 1) := by decide +kernel
theorem dX10_handed_37 : decode cX10_handed 37 = .ok (.iaload, 1) := by decide +kernel
theorem dX10_handed_38 : decode cX10_handed 38 = .ok (.bipush 100, 2) := by decide +kernel
theorem dX10_handed_40 : decode cX10_handed 40 = .ok (.isub, 1) := by decide +kernel
theorem dX10_handed_41 : decode cX10_handed 41 = .ok (.iaload, 1) := by decide +kernel
theorem dX10_handed_42 : decode cX10_handed 42 = .ok (.iadd, 1) := by decide +kernel
theorem dX10_handed_43 : decode cX10_handed 43 = .ok (.goto 23, 3) := by decide +kernel
theorem dX10_handed_46 : decode cX10_handed 46 = .ok (.aload_n 0, 1) := by decide +kernel
theorem dX10_handed_47 : decode cX10_handed 47 = .ok (.getfield 63, 3) := by decide +kernel
theorem dX10_handed_50 : decode cX10_handed 50 = .ok (.iload_n 1, 1) := by decide +kernel
theorem dX10_handed_51 : decode cX10_handed 51 = .ok (.iaload, 1) := by decide +kernel
theorem dX10_handed_52 : decode cX10_handed 52 = .ok (.iconst 4, 1) := by decide +kernel
theorem dX10_handed_53 : decode cX10_handed 53 = .ok (.idiv, 1) := by decide +kernel
theorem dX10_handed_54 : decode cX10_handed 54 = .ok (.bipush 10, 2) := by decide +kernel
theorem dX10_handed_56 : decode cX10_handed 56 = .ok (.imul, 1) := by decide +kernel
theorem dX10_handed_57 : decode cX10_handed 57 = .ok (.aload_n 0, 1) := by decide +kernel
theorem dX10_handed_58 : decode cX10_handed 58 = .ok (.getfield 63, 3) := by decide +kernel
theorem dX10_handed_61 : decode cX10_handed 61 = .ok (.iload_n 1, 1) := by decide +kernel
theorem dX10_handed_62 : decode cX10_handed 62 = .ok (.iaload, 1) := by decide +kernel
theorem dX10_handed_63 : decode cX10_handed 63 = .ok (.iconst 4, 1) := by decide +kernel
theorem dX10_handed_64 : decode cX10_handed 64 = .ok (.irem, 1) := by decide +kernel
theorem dX10_handed_65 : decode cX10_handed 65 = .ok (.iadd, 1) := by decide +kernel
theorem dX10_handed_66 : decode cX10_handed 66 = .ok (.ireturn, 1) := by decide +kernel
set_option maxRecDepth 20000 in
theorem ggX10_next_X10_isReader : GoodIn wsX10_next wsX10_isReader := goodIn_r _ [15, 16, 17, 18, 14, 19, 104, 105, 106, 107, 108, 109, 110, 111, 112, 113, 114, 115, 116, 117, 118, 119, 120, 121, 122, 123, 124, 125, 126, 127, 128, 129, 130, 131, 132, 133, 134, 135, 136, 137, 138, 139, 140, 141, 142, 143, 144] (by decide +kernel) (by decide +kernel)
set_option maxRecDepth 20000 in
theorem gX10_next_X10_isReader : GoodIn wsX10_next (wsV RX10 199 RX10 yX10_isReader wsX10_isReader) := goodIn_app (goodIn_of _ (by decide +kernel)) ggX10_next_X10_isReader
set_option maxRecDepth 20000 in
theorem ggX10_next_X10_asked_ : GoodIn wsX10_next wsX10_asked_ := goodIn_r _ [23, 24, 104, 105, 106, 107, 108, 109, 110, 111, 112, 113, 114, 115, 116, 117, 118, 119, 120, 121, 122, 123, 124, 125, 126, 127, 128, 129, 130, 131, 132, 133, 134, 135, 136, 137, 138, 139, 140, 141, 142, 143, 144] (by decide +kernel) (by decide +kernel)
set_option maxRecDepth 20000 in
theorem gX10_next_X10_asked_ : GoodIn wsX10_next (wsV RX10 127 RX10 yX10_asked_ wsX10_asked_) := goodIn_app (goodIn_of _ (by decide +kernel)) ggX10_next_X10_asked_
set_option maxRecDepth 20000 in
theorem ggX10_next_X10_canGive : GoodIn wsX10_next wsX10_canGive := goodIn_r _ [28, 29, 30, 6, 31, 16, 3, 32, 33, 34, 35, 36, 37, 38, 14, 39, 40, 41, 42, 43, 44, 45, 46, 47, 48, 49, 50, 51, 52, 53, 54, 55, 56, 57, 58, 59, 60, 61, 62, 63, 64, 65, 66, 67, 68, 69, 70, 71, 72, 73, 74, 75, 76, 77, 78, 79, 80, 81, 82, 83, 84, 17, 18, 19, 85, 86, 87, 88, 89, 90, 91, 92, 93, 94, 95, 96, 97, 98, 99, 104, 105, 106, 107, 108, 109, 110, 111, 112, 113, 114, 115, 116, 117, 118, 119, 120, 121, 122, 123, 124, 125, 126, 127, 128, 129, 130, 131, 132, 133, 134, 135, 136, 137, 138, 139, 140, 141, 142, 143, 144] (by decide +kernel) (by decide +kernel)
set_option maxRecDepth 20000 in
theorem gX10_next_X10_canGive : GoodIn wsX10_next (wsV RX10 202 RX10 yX10_canGive wsX10_canGive) := goodIn_app (goodIn_of _ (by decide +kernel)) ggX10_next_X10_canGive
set_option maxRecDepth 20000 in
theorem ggX10_next_X10_wantsAppeal : GoodIn wsX10_next wsX10_wantsAppeal := goodIn_r _ [99, 57, 58, 59, 14, 60, 61, 62, 63, 64, 65, 32, 33, 66, 41, 42, 43, 44, 45, 46, 47, 48, 49, 50, 51, 31, 67, 68, 69, 70, 71, 72, 73, 74, 75, 76, 77, 78, 79, 80, 81, 82, 83, 84, 17, 18, 19, 85, 86, 87, 88, 89, 90, 91, 35, 34, 104, 105, 106, 107, 108, 109, 110, 111, 112, 113, 114, 115, 116, 117, 118, 119, 120, 121, 122, 123, 124, 125, 126, 127, 128, 129, 130, 131, 132, 133, 134, 135, 136, 137, 138, 139, 140, 141, 142, 143, 144] (by decide +kernel) (by decide +kernel)
set_option maxRecDepth 20000 in
theorem gX10_next_X10_wantsAppeal : GoodIn wsX10_next (wsV RX10 190 RX10 yX10_wantsAppeal wsX10_wantsAppeal) := goodIn_app (goodIn_of _ (by decide +kernel)) ggX10_next_X10_wantsAppeal
set_option maxRecDepth 20000 in
theorem ggX10_next_X10_handed : GoodIn wsX10_next wsX10_handed := goodIn_r _ [103, 3, 7, 104, 105, 106, 107, 108, 109, 110, 111, 112, 113, 114, 115, 116, 117, 118, 119, 120, 121, 122, 123, 124, 125, 126, 127, 128, 129, 130, 131, 132, 133, 134, 135, 136, 137, 138, 139, 140, 141, 142, 143, 144] (by decide +kernel) (by decide +kernel)
set_option maxRecDepth 20000 in
theorem gX10_next_X10_handed : GoodIn wsX10_next (wsV RX10 206 RX10 yX10_handed wsX10_handed) := goodIn_app (goodIn_of _ (by decide +kernel)) ggX10_next_X10_handed
theorem dX10_next_0 : decode cX10_next 0 = .ok (.aload_n 0, 1) := by decide +kernel
theorem dX10_next_1 : decode cX10_next 1 = .ok (.iload_n 1, 1) := by decide +kernel
theorem dX10_next_2 : decode cX10_next 2 = .ok (.invokevirtual 199, 3) := by decide +kernel
theorem dX10_next_5 : decode cX10_next 5 = .ok (.istore_n 2, 1) := by decide +kernel
theorem dX10_next_6 : decode cX10_next 6 = .ok (.aload_n 0, 1) := by decide +kernel
theorem dX10_next_7 : decode cX10_next 7 = .ok (.iload_n 2, 1) := by decide +kernel
theorem dX10_next_8 : decode cX10_next 8 = .ok (.iload_n 2, 1) := by decide +kernel
theorem dX10_next_9 : decode cX10_next 9 = .ok (.ifCond .eq 16, 3) := by decide +kernel
theorem dX10_next_12 : decode cX10_next 12 = .ok (.aload_n 0, 1) := by decide +kernel
theorem dX10_next_13 : decode cX10_next 13 = .ok (.getfield 60, 3) := by decide +kernel
theorem dX10_next_16 : decode cX10_next 16 = .ok (.iload_n 1, 1) := by decide +kernel
theorem dX10_next_17 : decode cX10_next 17 = .ok (.baload, 1) := by decide +kernel
theorem dX10_next_18 : decode cX10_next 18 = .ok (.ifCond .ne 7, 3) := by decide +kernel
theorem dX10_next_21 : decode cX10_next 21 = .ok (.iconst 1, 1) := by decide +kernel
theorem dX10_next_22 : decode cX10_next 22 = .ok (.goto 4, 3) := by decide +kernel
theorem dX10_next_25 : decode cX10_next 25 = .ok (.iconst 0, 1) := by decide +kernel
theorem dX10_next_26 : decode cX10_next 26 = .ok (.invokevirtual 127, 3) := by decide +kernel
theorem dX10_next_29 : decode cX10_next 29 = .ok (.ifCond .ne 5, 3) := by decide +kernel
theorem dX10_next_32 : decode cX10_next 32 = .ok (.iconst 0, 1) := by decide +kernel
theorem dX10_next_33 : decode cX10_next 33 = .ok (.ireturn, 1) := by decide +kernel
theorem dX10_next_34 : decode cX10_next 34 = .ok (.iconst 0, 1) := by decide +kernel
theorem dX10_next_35 : decode cX10_next 35 = .ok (.istore_n 3, 1) := by decide +kernel
theorem dX10_next_36 : decode cX10_next 36 = .ok (.iload_n 3, 1) := by decide +kernel
theorem dX10_next_37 : decode cX10_next 37 = .ok (.aload_n 0, 1) := by decide +kernel
theorem dX10_next_38 : decode cX10_next 38 = .ok (.getfield 148, 3) := by decide +kernel
theorem dX10_next_41 : decode cX10_next 41 = .ok (.if_icmp .ge 83, 3) := by decide +kernel
theorem dX10_next_44 : decode cX10_next 44 = .ok (.aload_n 0, 1) := by decide +kernel
theorem dX10_next_45 : decode cX10_next 45 = .ok (.getfield 63, 3) := by decide +kernel
theorem dX10_next_48 : decode cX10_next 48 = .ok (.iload_n 1, 1) := by decide +kernel
theorem dX10_next_49 : decode cX10_next 49 = .ok (.iaload, 1) := by decide +kernel
theorem dX10_next_50 : decode cX10_next 50 = .ok (.iconst (-1), 1) := by decide +kernel
theorem dX10_next_51 : decode cX10_next 51 = .ok (.if_icmp .ne 73, 3) := by decide +kernel
theorem dX10_next_54 : decode cX10_next 54 = .ok (.aload_n 0, 1) := by decide +kernel
theorem dX10_next_55 : decode cX10_next 55 = .ok (.getfield 69, 3) := by decide +kernel
theorem dX10_next_58 : decode cX10_next 58 = .ok (.iload_n 1, 1) := by decide +kernel
theorem dX10_next_59 : decode cX10_next 59 = .ok (.iaload, 1) := by decide +kernel
theorem dX10_next_60 : decode cX10_next 60 = .ok (.iconst 3, 1) := by decide +kernel
theorem dX10_next_61 : decode cX10_next 61 = .ok (.if_icmp .lt 63, 3) := by decide +kernel
theorem dX10_next_64 : decode cX10_next 64 = .ok (.aload_n 0, 1) := by decide +kernel
theorem dX10_next_65 : decode cX10_next 65 = .ok (.getfield 75, 3) := by decide +kernel
theorem dX10_next_68 : decode cX10_next 68 = .ok (.iload_n 1, 1) := by decide +kernel
theorem dX10_next_69 : decode cX10_next 69 = .ok (.iaload, 1) := by decide +kernel
theorem dX10_next_70 : decode cX10_next 70 = .ok (.iload_n 3, 1) := by decide +kernel
theorem dX10_next_71 : decode cX10_next 71 = .ok (.ishr, 1) := by decide +kernel
theorem dX10_next_72 : decode cX10_next 72 = .ok (.iconst 1, 1) := by decide +kernel
theorem dX10_next_73 : decode cX10_next 73 = .ok (.iand, 1) := by decide +kernel
theorem dX10_next_74 : decode cX10_next 74 = .ok (.ifCond .ne 44, 3) := by decide +kernel
theorem dX10_next_77 : decode cX10_next 77 = .ok (.aload_n 0, 1) := by decide +kernel
theorem dX10_next_78 : decode cX10_next 78 = .ok (.getfield 54, 3) := by decide +kernel
theorem dX10_next_81 : decode cX10_next 81 = .ok (.iload_n 1, 1) := by decide +kernel
theorem dX10_next_82 : decode cX10_next 82 = .ok (.iaload, 1) := by decide +kernel
theorem dX10_next_83 : decode cX10_next 83 = .ok (.aload_n 0, 1) := by decide +kernel
theorem dX10_next_84 : decode cX10_next 84 = .ok (.getfield 78, 3) := by decide +kernel
theorem dX10_next_87 : decode cX10_next 87 = .ok (.iload_n 3, 1) := by decide +kernel
theorem dX10_next_88 : decode cX10_next 88 = .ok (.iaload, 1) := by decide +kernel
theorem dX10_next_89 : decode cX10_next 89 = .ok (.ishr, 1) := by decide +kernel
theorem dX10_next_90 : decode cX10_next 90 = .ok (.iconst 1, 1) := by decide +kernel
theorem dX10_next_91 : decode cX10_next 91 = .ok (.iand, 1) := by decide +kernel
theorem dX10_next_92 : decode cX10_next 92 = .ok (.iconst 1, 1) := by decide +kernel
theorem dX10_next_93 : decode cX10_next 93 = .ok (.if_icmp .ne 25, 3) := by decide +kernel
theorem dX10_next_96 : decode cX10_next 96 = .ok (.aload_n 0, 1) := by decide +kernel
theorem dX10_next_97 : decode cX10_next 97 = .ok (.getfield 63, 3) := by decide +kernel
theorem dX10_next_100 : decode cX10_next 100 = .ok (.iload_n 1, 1) := by decide +kernel
theorem dX10_next_101 : decode cX10_next 101 = .ok (.bipush 100, 2) := by decide +kernel
theorem dX10_next_103 : decode cX10_next 103 = .ok (.iload_n 3, 1) := by decide +kernel
theorem dX10_next_104 : decode cX10_next 104 = .ok (.iadd, 1) := by decide +kernel
theorem dX10_next_105 : decode cX10_next 105 = .ok (.iastore, 1) := by decide +kernel
theorem dX10_next_106 : decode cX10_next 106 = .ok (.aload_n 0, 1) := by decide +kernel
theorem dX10_next_107 : decode cX10_next 107 = .ok (.getfield 75, 3) := by decide +kernel
theorem dX10_next_110 : decode cX10_next 110 = .ok (.iload_n 1, 1) := by decide +kernel
theorem dX10_next_111 : decode cX10_next 111 = .ok (.dup2, 1) := by decide +kernel
theorem dX10_next_112 : decode cX10_next 112 = .ok (.iaload, 1) := by decide +kernel
theorem dX10_next_113 : decode cX10_next 113 = .ok (.iconst 1, 1) := by decide +kernel
theorem dX10_next_114 : decode cX10_next 114 = .ok (.iload_n 3, 1) := by decide +kernel
theorem dX10_next_115 : decode cX10_next 115 = .ok (.ishl, 1) := by decide +kernel
theorem dX10_next_116 : decode cX10_next 116 = .ok (.ior, 1) := by decide +kernel
theorem dX10_next_117 : decode cX10_next 117 = .ok (.iastore, 1) := by decide +kernel
theorem dX10_next_118 : decode cX10_next 118 = .ok (.iinc 3 1, 3) := by decide +kernel
theorem dX10_next_121 : decode cX10_next 121 = .ok (.goto (-85), 3) := by decide +kernel
theorem dX10_next_124 : decode cX10_next 124 = .ok (.iconst 0, 1) := by decide +kernel
theorem dX10_next_125 : decode cX10_next 125 = .ok (.istore_n 3, 1) := by decide +kernel
theorem dX10_next_126 : decode cX10_next 126 = .ok (.iload_n 3, 1) := by decide +kernel
theorem dX10_next_127 : decode cX10_next 127 = .ok (.bipush 8, 2) := by decide +kernel
theorem dX10_next_129 : decode cX10_next 129 = .ok (.aload_n 0, 1) := by decide +kernel
theorem dX10_next_130 : decode cX10_next 130 = .ok (.getfield 117, 3) := by decide +kernel
theorem dX10_next_133 : decode cX10_next 133 = .ok (.imul, 1) := by decide +kernel
theorem dX10_next_134 : decode cX10_next 134 = .ok (.if_icmp .ge 86, 3) := by decide +kernel
theorem dX10_next_137 : decode cX10_next 137 = .ok (.aload_n 0, 1) := by decide +kernel
theorem dX10_next_138 : decode cX10_next 138 = .ok (.getfield 63, 3) := by decide +kernel
theorem dX10_next_141 : decode cX10_next 141 = .ok (.iload_n 1, 1) := by decide +kernel
theorem dX10_next_142 : decode cX10_next 142 = .ok (.iaload, 1) := by decide +kernel
theorem dX10_next_143 : decode cX10_next 143 = .ok (.iconst (-1), 1) := by decide +kernel
theorem dX10_next_144 : decode cX10_next 144 = .ok (.if_icmp .ne 76, 3) := by decide +kernel
theorem dX10_next_147 : decode cX10_next 147 = .ok (.iload_n 3, 1) := by decide +kernel
theorem dX10_next_148 : decode cX10_next 148 = .ok (.iconst 4, 1) := by decide +kernel
theorem dX10_next_149 : decode cX10_next 149 = .ok (.aload_n 0, 1) := by decide +kernel
theorem dX10_next_150 : decode cX10_next 150 = .ok (.getfield 117, 3) := by decide +kernel
theorem dX10_next_153 : decode cX10_next 153 = .ok (.imul, 1) := by decide +kernel
theorem dX10_next_154 : decode cX10_next 154 = .ok (.irem, 1) := by decide +kernel
theorem dX10_next_155 : decode cX10_next 155 = .ok (.istore 4, 2) := by decide +kernel
theorem dX10_next_157 : decode cX10_next 157 = .ok (.aload_n 0, 1) := by decide +kernel
theorem dX10_next_158 : decode cX10_next 158 = .ok (.getfield 23, 3) := by decide +kernel
theorem dX10_next_161 : decode cX10_next 161 = .ok (.iload 4, 2) := by decide +kernel
theorem dX10_next_163 : decode cX10_next 163 = .ok (.iconst 4, 1) := by decide +kernel
theorem dX10_next_164 : decode cX10_next 164 = .ok (.idiv, 1) := by decide +kernel
theorem dX10_next_165 : decode cX10_next 165 = .ok (.baload, 1) := by decide +kernel
theorem dX10_next_166 : decode cX10_next 166 = .ok (.iload_n 3, 1) := by decide +kernel
theorem dX10_next_167 : decode cX10_next 167 = .ok (.iconst 4, 1) := by decide +kernel
theorem dX10_next_168 : decode cX10_next 168 = .ok (.aload_n 0, 1) := by decide +kernel
theorem dX10_next_169 : decode cX10_next 169 = .ok (.getfield 117, 3) := by decide +kernel
theorem dX10_next_172 : decode cX10_next 172 = .ok (.imul, 1) := by decide +kernel
theorem dX10_next_173 : decode cX10_next 173 = .ok (.if_icmp .ge 7, 3) := by decide +kernel
theorem dX10_next_176 : decode cX10_next 176 = .ok (.iconst 1, 1) := by decide +kernel
theorem dX10_next_177 : decode cX10_next 177 = .ok (.goto 4, 3) := by decide +kernel
theorem dX10_next_180 : decode cX10_next 180 = .ok (.iconst 0, 1) := by decide +kernel
theorem dX10_next_181 : decode cX10_next 181 = .ok (.if_icmp .ne 33, 3) := by decide +kernel
theorem dX10_next_184 : decode cX10_next 184 = .ok (.aload_n 0, 1) := by decide +kernel
theorem dX10_next_185 : decode cX10_next 185 = .ok (.iload_n 1, 1) := by decide +kernel
theorem dX10_next_186 : decode cX10_next 186 = .ok (.iload 4, 2) := by decide +kernel
theorem dX10_next_188 : decode cX10_next 188 = .ok (.invokevirtual 202, 3) := by decide +kernel
theorem dX10_next_191 : decode cX10_next 191 = .ok (.ifCond .eq 23, 3) := by decide +kernel
theorem dX10_next_194 : decode cX10_next 194 = .ok (.aload_n 0, 1) := by decide +kernel
theorem dX10_next_195 : decode cX10_next 195 = .ok (.getfield 63, 3) := by decide +kernel
theorem dX10_next_198 : decode cX10_next 198 = .ok (.iload_n 1, 1) := by decide +kernel
theorem dX10_next_199 : decode cX10_next 199 = .ok (.iload 4, 2) := by decide +kernel
theorem dX10_next_201 : decode cX10_next 201 = .ok (.iastore, 1) := by decide +kernel
theorem dX10_next_202 : decode cX10_next 202 = .ok (.aload_n 0, 1) := by decide +kernel
theorem dX10_next_203 : decode cX10_next 203 = .ok (.getfield 66, 3) := by decide +kernel
theorem dX10_next_206 : decode cX10_next 206 = .ok (.iload_n 1, 1) := by decide +kernel
theorem dX10_next_207 : decode cX10_next 207 = .ok (.aload_n 0, 1) := by decide +kernel
theorem dX10_next_208 : decode cX10_next 208 = .ok (.iload 4, 2) := by decide +kernel
theorem dX10_next_210 : decode cX10_next 210 = .ok (.invokevirtual 190, 3) := by decide +kernel
theorem dX10_next_213 : decode cX10_next 213 = .ok (.bastore, 1) := by decide +kernel
theorem dX10_next_214 : decode cX10_next 214 = .ok (.iinc 3 1, 3) := by decide +kernel
theorem dX10_next_217 : decode cX10_next 217 = .ok (.goto (-91), 3) := by decide +kernel
theorem dX10_next_220 : decode cX10_next 220 = .ok (.aload_n 0, 1) := by decide +kernel
theorem dX10_next_221 : decode cX10_next 221 = .ok (.iload_n 1, 1) := by decide +kernel
theorem dX10_next_222 : decode cX10_next 222 = .ok (.invokevirtual 206, 3) := by decide +kernel
theorem dX10_next_225 : decode cX10_next 225 = .ok (.ireturn, 1) := by decide +kernel
set_option maxRecDepth 20000 in
theorem ggX10_read_X10_isReader : GoodIn wsX10_read wsX10_isReader := goodIn_r _ [21, 22, 23, 24, 20, 25, 47, 48, 49, 50, 51, 52, 53, 54, 55, 56, 57, 58, 59, 60, 61, 62, 63, 64, 65, 66, 67, 68, 69, 70, 71, 72, 73, 74, 75, 76, 77, 78, 79, 80, 81, 82, 83, 84, 85, 86, 87] (by decide +kernel) (by decide +kernel)
set_option maxRecDepth 20000 in
theorem gX10_read_X10_isReader : GoodIn wsX10_read (wsV RX10 199 RX10 yX10_isReader wsX10_isReader) := goodIn_app (goodIn_of _ (by decide +kernel)) ggX10_read_X10_isReader
set_option maxRecDepth 20000 in
theorem ggX10_read_X10_in : GoodIn wsX10_read wsX10_in := goodIn_r _ [25] (by decide +kernel) (by decide +kernel)
set_option maxRecDepth 20000 in
theorem gX10_read_X10_in : GoodIn wsX10_read (va_wsS RX10 120 yX10_in wsX10_in) := goodIn_app (goodIn_of _ (by decide +kernel)) ggX10_read_X10_in
set_option maxRecDepth 20000 in
theorem ggX10_read_X10_asked__ : GoodIn wsX10_read wsX10_asked__ := goodIn_r _ [29, 30, 47, 48, 49, 50, 51, 52, 53, 54, 55, 56, 57, 58, 59, 60, 61, 62, 63, 64, 65, 66, 67, 68, 69, 70, 71, 72, 73, 74, 75, 76, 77, 78, 79, 80, 81, 82, 83, 84, 85, 86, 87] (by decide +kernel) (by decide +kernel)
set_option maxRecDepth 20000 in
theorem gX10_read_X10_asked__ : GoodIn wsX10_read (wsV RX10 151 RX10 yX10_asked__ wsX10_asked__) := goodIn_app (goodIn_of _ (by decide +kernel)) ggX10_read_X10_asked__
set_option maxRecDepth 20000 in
theorem ggX10_read_X10_held : GoodIn wsX10_read wsX10_held := goodIn_r _ [34, 35, 47, 48, 49, 50, 51, 52, 53, 54, 55, 56, 57, 58, 59, 60, 61, 62, 63, 64, 65, 66, 67, 68, 69, 70, 71, 72, 73, 74, 75, 76, 77, 78, 79, 80, 81, 82, 83, 84, 85, 86, 87] (by decide +kernel) (by decide +kernel)
set_option maxRecDepth 20000 in
theorem gX10_read_X10_held : GoodIn wsX10_read (wsV RX10 154 RX10 yX10_held wsX10_held) := goodIn_app (goodIn_of _ (by decide +kernel)) ggX10_read_X10_held
set_option maxRecDepth 20000 in
theorem ggX10_read_X10_value : GoodIn wsX10_read wsX10_value := goodIn_r _ [39, 40, 41, 42, 43, 23, 24, 20, 25, 47, 48, 49, 50, 51, 52, 53, 54, 55, 56, 57, 58, 59, 60, 61, 62, 63, 64, 65, 66, 67, 68, 69, 70, 71, 72, 73, 74, 75, 76, 77, 78, 79, 80, 81, 82, 83, 84, 85, 86, 87] (by decide +kernel) (by decide +kernel)
set_option maxRecDepth 20000 in
theorem gX10_read_X10_value : GoodIn wsX10_read (wsV RX10 164 RX10 yX10_value wsX10_value) := goodIn_app (goodIn_of _ (by decide +kernel)) ggX10_read_X10_value
set_option maxRecDepth 20000 in
theorem ggX10_read_X10_apart : GoodIn wsX10_read wsX10_apart := goodIn_r _ [46] (by decide +kernel) (by decide +kernel)
set_option maxRecDepth 20000 in
theorem gX10_read_X10_apart : GoodIn wsX10_read (va_wsS RX10 175 yX10_apart wsX10_apart) := goodIn_app (goodIn_of _ (by decide +kernel)) ggX10_read_X10_apart
theorem dX10_read_0 : decode cX10_read 0 = .ok (.aload_n 0, 1) := by decide +kernel
theorem dX10_read_1 : decode cX10_read 1 = .ok (.iload_n 1, 1) := by decide +kernel
theorem dX10_read_2 : decode cX10_read 2 = .ok (.invokevirtual 199, 3) := by decide +kernel
theorem dX10_read_5 : decode cX10_read 5 = .ok (.istore_n 3, 1) := by decide +kernel
theorem dX10_read_6 : decode cX10_read 6 = .ok (.iload_n 3, 1) := by decide +kernel
theorem dX10_read_7 : decode cX10_read 7 = .ok (.ifCond .eq 38, 3) := by decide +kernel
theorem dX10_read_10 : decode cX10_read 10 = .ok (.aload_n 0, 1) := by decide +kernel
theorem dX10_read_11 : decode cX10_read 11 = .ok (.getfield 63, 3) := by decide +kernel
theorem dX10_read_14 : decode cX10_read 14 = .ok (.iload_n 1, 1) := by decide +kernel
theorem dX10_read_15 : decode cX10_read 15 = .ok (.iaload, 1) := by decide +kernel
theorem dX10_read_16 : decode cX10_read 16 = .ok (.iconst (-1), 1) := by decide +kernel
theorem dX10_read_17 : decode cX10_read 17 = .ok (.if_icmp .eq 28, 3) := by decide +kernel
theorem dX10_read_20 : decode cX10_read 20 = .ok (.aload_n 0, 1) := by decide +kernel
theorem dX10_read_21 : decode cX10_read 21 = .ok (.getfield 63, 3) := by decide +kernel
theorem dX10_read_24 : decode cX10_read 24 = .ok (.iload_n 1, 1) := by decide +kernel
theorem dX10_read_25 : decode cX10_read 25 = .ok (.iaload, 1) := by decide +kernel
theorem dX10_read_26 : decode cX10_read 26 = .ok (.bipush 100, 2) := by decide +kernel
theorem dX10_read_28 : decode cX10_read 28 = .ok (.if_icmp .ge 13, 3) := by decide +kernel
theorem dX10_read_31 : decode cX10_read 31 = .ok (.aload_n 0, 1) := by decide +kernel
theorem dX10_read_32 : decode cX10_read 32 = .ok (.getfield 158, 3) := by decide +kernel
theorem dX10_read_35 : decode cX10_read 35 = .ok (.sipush 300, 3) := by decide +kernel
theorem dX10_read_38 : decode cX10_read 38 = .ok (.if_icmp .ge 7, 3) := by decide +kernel
theorem dX10_read_41 : decode cX10_read 41 = .ok (.iconst 1, 1) := by decide +kernel
theorem dX10_read_42 : decode cX10_read 42 = .ok (.goto 4, 3) := by decide +kernel
theorem dX10_read_45 : decode cX10_read 45 = .ok (.iconst 0, 1) := by decide +kernel
theorem dX10_read_46 : decode cX10_read 46 = .ok (.istore 4, 2) := by decide +kernel
theorem dX10_read_48 : decode cX10_read 48 = .ok (.aload_n 0, 1) := by decide +kernel
theorem dX10_read_49 : decode cX10_read 49 = .ok (.iload_n 3, 1) := by decide +kernel
theorem dX10_read_50 : decode cX10_read 50 = .ok (.iload_n 2, 1) := by decide +kernel
theorem dX10_read_51 : decode cX10_read 51 = .ok (.iconst 0, 1) := by decide +kernel
theorem dX10_read_52 : decode cX10_read 52 = .ok (.sipush 255, 3) := by decide +kernel
theorem dX10_read_55 : decode cX10_read 55 = .ok (.invokestatic 120, 3) := by decide +kernel
theorem dX10_read_58 : decode cX10_read 58 = .ok (.iload 4, 2) := by decide +kernel
theorem dX10_read_60 : decode cX10_read 60 = .ok (.invokevirtual 151, 3) := by decide +kernel
theorem dX10_read_63 : decode cX10_read 63 = .ok (.ifCond .ne 5, 3) := by decide +kernel
theorem dX10_read_66 : decode cX10_read 66 = .ok (.iconst 0, 1) := by decide +kernel
theorem dX10_read_67 : decode cX10_read 67 = .ok (.ireturn, 1) := by decide +kernel
theorem dX10_read_68 : decode cX10_read 68 = .ok (.aload_n 0, 1) := by decide +kernel
theorem dX10_read_69 : decode cX10_read 69 = .ok (.getfield 63, 3) := by decide +kernel
theorem dX10_read_72 : decode cX10_read 72 = .ok (.iload_n 1, 1) := by decide +kernel
theorem dX10_read_73 : decode cX10_read 73 = .ok (.iaload, 1) := by decide +kernel
theorem dX10_read_74 : decode cX10_read 74 = .ok (.istore 5, 2) := by decide +kernel
theorem dX10_read_76 : decode cX10_read 76 = .ok (.aload_n 0, 1) := by decide +kernel
theorem dX10_read_77 : decode cX10_read 77 = .ok (.getfield 63, 3) := by decide +kernel
theorem dX10_read_80 : decode cX10_read 80 = .ok (.iload_n 1, 1) := by decide +kernel
theorem dX10_read_81 : decode cX10_read 81 = .ok (.iconst (-1), 1) := by decide +kernel
theorem dX10_read_82 : decode cX10_read 82 = .ok (.iastore, 1) := by decide +kernel
theorem dX10_read_83 : decode cX10_read 83 = .ok (.iload 5, 2) := by decide +kernel
theorem dX10_read_85 : decode cX10_read 85 = .ok (.bipush 100, 2) := by decide +kernel
theorem dX10_read_87 : decode cX10_read 87 = .ok (.if_icmp .lt 135, 3) := by decide +kernel
theorem dX10_read_90 : decode cX10_read 90 = .ok (.aload_n 0, 1) := by decide +kernel
theorem dX10_read_91 : decode cX10_read 91 = .ok (.aload_n 0, 1) := by decide +kernel
theorem dX10_read_92 : decode cX10_read 92 = .ok (.getfield 78, 3) := by decide +kernel
theorem dX10_read_95 : decode cX10_read 95 = .ok (.iload 5, 2) := by decide +kernel
theorem dX10_read_97 : decode cX10_read 97 = .ok (.bipush 100, 2) := by decide +kernel
theorem dX10_read_99 : decode cX10_read 99 = .ok (.isub, 1) := by decide +kernel
theorem dX10_read_100 : decode cX10_read 100 = .ok (.iaload, 1) := by decide +kernel
theorem dX10_read_101 : decode cX10_read 101 = .ok (.invokevirtual 154, 3) := by decide +kernel
theorem dX10_read_104 : decode cX10_read 104 = .ok (.istore 6, 2) := by decide +kernel
theorem dX10_read_106 : decode cX10_read 106 = .ok (.aload_n 0, 1) := by decide +kernel
theorem dX10_read_107 : decode cX10_read 107 = .ok (.iload 6, 2) := by decide +kernel
theorem dX10_read_109 : decode cX10_read 109 = .ok (.iload_n 2, 1) := by decide +kernel
theorem dX10_read_110 : decode cX10_read 110 = .ok (.invokevirtual 164, 3) := by decide +kernel
theorem dX10_read_113 : decode cX10_read 113 = .ok (.istore 7, 2) := by decide +kernel
theorem dX10_read_115 : decode cX10_read 115 = .ok (.aload_n 0, 1) := by decide +kernel
theorem dX10_read_116 : decode cX10_read 116 = .ok (.getfield 69, 3) := by decide +kernel
theorem dX10_read_119 : decode cX10_read 119 = .ok (.iload_n 1, 1) := by decide +kernel
theorem dX10_read_120 : decode cX10_read 120 = .ok (.iconst 0, 1) := by decide +kernel
theorem dX10_read_121 : decode cX10_read 121 = .ok (.iastore, 1) := by decide +kernel
theorem dX10_read_122 : decode cX10_read 122 = .ok (.iload 7, 2) := by decide +kernel
theorem dX10_read_124 : decode cX10_read 124 = .ok (.aload_n 0, 1) := by decide +kernel
theorem dX10_read_125 : decode cX10_read 125 = .ok (.iload 6, 2) := by decide +kernel
theorem dX10_read_127 : decode cX10_read 127 = .ok (.aload_n 0, 1) := by decide +kernel
theorem dX10_read_128 : decode cX10_read 128 = .ok (.getfield 81, 3) := by decide +kernel
theorem dX10_read_131 : decode cX10_read 131 = .ok (.iload 5, 2) := by decide +kernel
theorem dX10_read_133 : decode cX10_read 133 = .ok (.bipush 100, 2) := by decide +kernel
theorem dX10_read_135 : decode cX10_read 135 = .ok (.isub, 1) := by decide +kernel
theorem dX10_read_136 : decode cX10_read 136 = .ok (.iaload, 1) := by decide +kernel
theorem dX10_read_137 : decode cX10_read 137 = .ok (.invokevirtual 164, 3) := by decide +kernel
theorem dX10_read_140 : decode cX10_read 140 = .ok (.invokestatic 175, 3) := by decide +kernel
theorem dX10_read_143 : decode cX10_read 143 = .ok (.aload_n 0, 1) := by decide +kernel
theorem dX10_read_144 : decode cX10_read 144 = .ok (.getfield 13, 3) := by decide +kernel
theorem dX10_read_147 : decode cX10_read 147 = .ok (.if_icmp .gt 16, 3) := by decide +kernel
theorem dX10_read_150 : decode cX10_read 150 = .ok (.aload_n 0, 1) := by decide +kernel
theorem dX10_read_151 : decode cX10_read 151 = .ok (.getfield 72, 3) := by decide +kernel
theorem dX10_read_154 : decode cX10_read 154 = .ok (.iload_n 1, 1) := by decide +kernel
theorem dX10_read_155 : decode cX10_read 155 = .ok (.aload_n 0, 1) := by decide +kernel
theorem dX10_read_156 : decode cX10_read 156 = .ok (.getfield 158, 3) := by decide +kernel
theorem dX10_read_159 : decode cX10_read 159 = .ok (.iastore, 1) := by decide +kernel
theorem dX10_read_160 : decode cX10_read 160 = .ok (.iload 7, 2) := by decide +kernel
theorem dX10_read_162 : decode cX10_read 162 = .ok (.ireturn, 1) := by decide +kernel
theorem dX10_read_163 : decode cX10_read 163 = .ok (.aload_n 0, 1) := by decide +kernel
theorem dX10_read_164 : decode cX10_read 164 = .ok (.getfield 60, 3) := by decide +kernel
theorem dX10_read_167 : decode cX10_read 167 = .ok (.iload_n 1, 1) := by decide +kernel
theorem dX10_read_168 : decode cX10_read 168 = .ok (.iconst 1, 1) := by decide +kernel
theorem dX10_read_169 : decode cX10_read 169 = .ok (.bastore, 1) := by decide +kernel
theorem dX10_read_170 : decode cX10_read 170 = .ok (.aload_n 0, 1) := by decide +kernel
theorem dX10_read_171 : decode cX10_read 171 = .ok (.getfield 72, 3) := by decide +kernel
theorem dX10_read_174 : decode cX10_read 174 = .ok (.iload_n 1, 1) := by decide +kernel
theorem dX10_read_175 : decode cX10_read 175 = .ok (.iaload, 1) := by decide +kernel
theorem dX10_read_176 : decode cX10_read 176 = .ok (.istore 8, 2) := by decide +kernel
theorem dX10_read_178 : decode cX10_read 178 = .ok (.iload 8, 2) := by decide +kernel
theorem dX10_read_180 : decode cX10_read 180 = .ok (.aload_n 0, 1) := by decide +kernel
theorem dX10_read_181 : decode cX10_read 181 = .ok (.getfield 158, 3) := by decide +kernel
theorem dX10_read_184 : decode cX10_read 184 = .ok (.if_icmp .ge 35, 3) := by decide +kernel
theorem dX10_read_187 : decode cX10_read 187 = .ok (.aload_n 0, 1) := by decide +kernel
theorem dX10_read_188 : decode cX10_read 188 = .ok (.getfield 96, 3) := by decide +kernel
theorem dX10_read_191 : decode cX10_read 191 = .ok (.iload 8, 2) := by decide +kernel
theorem dX10_read_193 : decode cX10_read 193 = .ok (.dup2, 1) := by decide +kernel
theorem dX10_read_194 : decode cX10_read 194 = .ok (.baload, 1) := by decide +kernel
theorem dX10_read_195 : decode cX10_read 195 = .ok (.aload_n 0, 1) := by decide +kernel
theorem dX10_read_196 : decode cX10_read 196 = .ok (.getfield 87, 3) := by decide +kernel
theorem dX10_read_199 : decode cX10_read 199 = .ok (.iload 8, 2) := by decide +kernel
theorem dX10_read_201 : decode cX10_read 201 = .ok (.iaload, 1) := by decide +kernel
theorem dX10_read_202 : decode cX10_read 202 = .ok (.iload_n 1, 1) := by decide +kernel
theorem dX10_read_203 : decode cX10_read 203 = .ok (.if_icmp .ne 7, 3) := by decide +kernel
theorem dX10_read_206 : decode cX10_read 206 = .ok (.iconst 1, 1) := by decide +kernel
theorem dX10_read_207 : decode cX10_read 207 = .ok (.goto 4, 3) := by decide +kernel
theorem dX10_read_210 : decode cX10_read 210 = .ok (.iconst 0, 1) := by decide +kernel
theorem dX10_read_211 : decode cX10_read 211 = .ok (.ior, 1) := by decide +kernel
theorem dX10_read_212 : decode cX10_read 212 = .ok (.bastore, 1) := by decide +kernel
theorem dX10_read_213 : decode cX10_read 213 = .ok (.iinc 8 1, 3) := by decide +kernel
theorem dX10_read_216 : decode cX10_read 216 = .ok (.goto (-38), 3) := by decide +kernel
theorem dX10_read_219 : decode cX10_read 219 = .ok (.iload 7, 2) := by decide +kernel
theorem dX10_read_221 : decode cX10_read 221 = .ok (.ireturn, 1) := by decide +kernel
theorem dX10_read_222 : decode cX10_read 222 = .ok (.aload_n 0, 1) := by decide +kernel
theorem dX10_read_223 : decode cX10_read 223 = .ok (.iload 5, 2) := by decide +kernel
theorem dX10_read_225 : decode cX10_read 225 = .ok (.iconst 4, 1) := by decide +kernel
theorem dX10_read_226 : decode cX10_read 226 = .ok (.irem, 1) := by decide +kernel
theorem dX10_read_227 : decode cX10_read 227 = .ok (.invokevirtual 154, 3) := by decide +kernel
theorem dX10_read_230 : decode cX10_read 230 = .ok (.istore 6, 2) := by decide +kernel
theorem dX10_read_232 : decode cX10_read 232 = .ok (.aload_n 0, 1) := by decide +kernel
theorem dX10_read_233 : decode cX10_read 233 = .ok (.getfield 84, 3) := by decide +kernel
theorem dX10_read_236 : decode cX10_read 236 = .ok (.aload_n 0, 1) := by decide +kernel
theorem dX10_read_237 : decode cX10_read 237 = .ok (.getfield 158, 3) := by decide +kernel
theorem dX10_read_240 : decode cX10_read 240 = .ok (.iload 5, 2) := by decide +kernel
theorem dX10_read_242 : decode cX10_read 242 = .ok (.iastore, 1) := by decide +kernel
theorem dX10_read_243 : decode cX10_read 243 = .ok (.aload_n 0, 1) := by decide +kernel
theorem dX10_read_244 : decode cX10_read 244 = .ok (.getfield 87, 3) := by decide +kernel
theorem dX10_read_247 : decode cX10_read 247 = .ok (.aload_n 0, 1) := by decide +kernel
theorem dX10_read_248 : decode cX10_read 248 = .ok (.getfield 158, 3) := by decide +kernel
theorem dX10_read_251 : decode cX10_read 251 = .ok (.iload_n 1, 1) := by decide +kernel
theorem dX10_read_252 : decode cX10_read 252 = .ok (.iastore, 1) := by decide +kernel
theorem dX10_read_253 : decode cX10_read 253 = .ok (.aload_n 0, 1) := by decide +kernel
theorem dX10_read_254 : decode cX10_read 254 = .ok (.getfield 90, 3) := by decide +kernel
theorem dX10_read_257 : decode cX10_read 257 = .ok (.aload_n 0, 1) := by decide +kernel
theorem dX10_read_258 : decode cX10_read 258 = .ok (.getfield 158, 3) := by decide +kernel
theorem dX10_read_261 : decode cX10_read 261 = .ok (.iload_n 2, 1) := by decide +kernel
theorem dX10_read_262 : decode cX10_read 262 = .ok (.aload_n 0, 1) := by decide +kernel
theorem dX10_read_263 : decode cX10_read 263 = .ok (.getfield 45, 3) := by decide +kernel
theorem dX10_read_266 : decode cX10_read 266 = .ok (.iload 6, 2) := by decide +kernel
theorem dX10_read_268 : decode cX10_read 268 = .ok (.iaload, 1) := by decide +kernel
theorem dX10_read_269 : decode cX10_read 269 = .ok (.iand, 1) := by decide +kernel
theorem dX10_read_270 : decode cX10_read 270 = .ok (.iastore, 1) := by decide +kernel
theorem dX10_read_271 : decode cX10_read 271 = .ok (.aload_n 0, 1) := by decide +kernel
theorem dX10_read_272 : decode cX10_read 272 = .ok (.getfield 93, 3) := by decide +kernel
theorem dX10_read_275 : decode cX10_read 275 = .ok (.aload_n 0, 1) := by decide +kernel
theorem dX10_read_276 : decode cX10_read 276 = .ok (.getfield 158, 3) := by decide +kernel
theorem dX10_read_279 : decode cX10_read 279 = .ok (.aload_n 0, 1) := by decide +kernel
theorem dX10_read_280 : decode cX10_read 280 = .ok (.getfield 45, 3) := by decide +kernel
theorem dX10_read_283 : decode cX10_read 283 = .ok (.iload 6, 2) := by decide +kernel
theorem dX10_read_285 : decode cX10_read 285 = .ok (.iaload, 1) := by decide +kernel
theorem dX10_read_286 : decode cX10_read 286 = .ok (.iastore, 1) := by decide +kernel
theorem dX10_read_287 : decode cX10_read 287 = .ok (.aload_n 0, 1) := by decide +kernel
theorem dX10_read_288 : decode cX10_read 288 = .ok (.getfield 99, 3) := by decide +kernel
theorem dX10_read_291 : decode cX10_read 291 = .ok (.aload_n 0, 1) := by decide +kernel
theorem dX10_read_292 : decode cX10_read 292 = .ok (.getfield 158, 3) := by decide +kernel
theorem dX10_read_295 : decode cX10_read 295 = .ok (.aload_n 0, 1) := by decide +kernel
theorem dX10_read_296 : decode cX10_read 296 = .ok (.getfield 66, 3) := by decide +kernel
theorem dX10_read_299 : decode cX10_read 299 = .ok (.iload_n 1, 1) := by decide +kernel
theorem dX10_read_300 : decode cX10_read 300 = .ok (.baload, 1) := by decide +kernel
theorem dX10_read_301 : decode cX10_read 301 = .ok (.bastore, 1) := by decide +kernel
theorem dX10_read_302 : decode cX10_read 302 = .ok (.aload_n 0, 1) := by decide +kernel
theorem dX10_read_303 : decode cX10_read 303 = .ok (.dup, 1) := by decide +kernel
theorem dX10_read_304 : decode cX10_read 304 = .ok (.getfield 158, 3) := by decide +kernel
theorem dX10_read_307 : decode cX10_read 307 = .ok (.iconst 1, 1) := by decide +kernel
theorem dX10_read_308 : decode cX10_read 308 = .ok (.iadd, 1) := by decide +kernel
theorem dX10_read_309 : decode cX10_read 309 = .ok (.putfield 158, 3) := by decide +kernel
theorem dX10_read_312 : decode cX10_read 312 = .ok (.aload_n 0, 1) := by decide +kernel
theorem dX10_read_313 : decode cX10_read 313 = .ok (.getfield 69, 3) := by decide +kernel
theorem dX10_read_316 : decode cX10_read 316 = .ok (.iload_n 1, 1) := by decide +kernel
theorem dX10_read_317 : decode cX10_read 317 = .ok (.dup2, 1) := by decide +kernel
theorem dX10_read_318 : decode cX10_read 318 = .ok (.iaload, 1) := by decide +kernel
theorem dX10_read_319 : decode cX10_read 319 = .ok (.iconst 1, 1) := by decide +kernel
theorem dX10_read_320 : decode cX10_read 320 = .ok (.iadd, 1) := by decide +kernel
theorem dX10_read_321 : decode cX10_read 321 = .ok (.iastore, 1) := by decide +kernel
theorem dX10_read_322 : decode cX10_read 322 = .ok (.aload_n 0, 1) := by decide +kernel
theorem dX10_read_323 : decode cX10_read 323 = .ok (.iload 6, 2) := by decide +kernel
theorem dX10_read_325 : decode cX10_read 325 = .ok (.iload_n 2, 1) := by decide +kernel
theorem dX10_read_326 : decode cX10_read 326 = .ok (.invokevirtual 164, 3) := by decide +kernel
theorem dX10_read_329 : decode cX10_read 329 = .ok (.ireturn, 1) := by decide +kernel
theorem dX10_voids_0 : decode cX10_voids 0 = .ok (.iconst 0, 1) := by decide +kernel
theorem dX10_voids_1 : decode cX10_voids 1 = .ok (.istore_n 2, 1) := by decide +kernel
theorem dX10_voids_2 : decode cX10_voids 2 = .ok (.iconst 0, 1) := by decide +kernel
theorem dX10_voids_3 : decode cX10_voids 3 = .ok (.istore_n 3, 1) := by decide +kernel
theorem dX10_voids_4 : decode cX10_voids 4 = .ok (.iload_n 3, 1) := by decide +kernel
theorem dX10_voids_5 : decode cX10_voids 5 = .ok (.aload_n 0, 1) := by decide +kernel
theorem dX10_voids_6 : decode cX10_voids 6 = .ok (.getfield 158, 3) := by decide +kernel
theorem dX10_voids_9 : decode cX10_voids 9 = .ok (.if_icmp .ge 36, 3) := by decide +kernel
theorem dX10_voids_12 : decode cX10_voids 12 = .ok (.iload_n 2, 1) := by decide +kernel
theorem dX10_voids_13 : decode cX10_voids 13 = .ok (.aload_n 0, 1) := by decide +kernel
theorem dX10_voids_14 : decode cX10_voids 14 = .ok (.getfield 87, 3) := by decide +kernel
theorem dX10_voids_17 : decode cX10_voids 17 = .ok (.iload_n 3, 1) := by decide +kernel
theorem dX10_voids_18 : decode cX10_voids 18 = .ok (.iaload, 1) := by decide +kernel
theorem dX10_voids_19 : decode cX10_voids 19 = .ok (.iload_n 1, 1) := by decide +kernel
theorem dX10_voids_20 : decode cX10_voids 20 = .ok (.if_icmp .ne 16, 3) := by decide +kernel
theorem dX10_voids_23 : decode cX10_voids 23 = .ok (.aload_n 0, 1) := by decide +kernel
theorem dX10_voids_24 : decode cX10_voids 24 = .ok (.getfield 96, 3) := by decide +kernel
theorem dX10_voids_27 : decode cX10_voids 27 = .ok (.iload_n 3, 1) := by decide +kernel
theorem dX10_voids_28 : decode cX10_voids 28 = .ok (.baload, 1) := by decide +kernel
theorem dX10_voids_29 : decode cX10_voids 29 = .ok (.ifCond .eq 7, 3) := by decide +kernel
theorem dX10_voids_32 : decode cX10_voids 32 = .ok (.iconst 1, 1) := by decide +kernel
theorem dX10_voids_33 : decode cX10_voids 33 = .ok (.goto 4, 3) := by decide +kernel
theorem dX10_voids_36 : decode cX10_voids 36 = .ok (.iconst 0, 1) := by decide +kernel
theorem dX10_voids_37 : decode cX10_voids 37 = .ok (.iadd, 1) := by decide +kernel
theorem dX10_voids_38 : decode cX10_voids 38 = .ok (.istore_n 2, 1) := by decide +kernel
theorem dX10_voids_39 : decode cX10_voids 39 = .ok (.iinc 3 1, 3) := by decide +kernel
theorem dX10_voids_42 : decode cX10_voids 42 = .ok (.goto (-38), 3) := by decide +kernel
theorem dX10_voids_45 : decode cX10_voids 45 = .ok (.iload_n 2, 1) := by decide +kernel
theorem dX10_voids_46 : decode cX10_voids 46 = .ok (.ireturn, 1) := by decide +kernel
set_option maxRecDepth 20000 in
theorem ggX10_goOn_X10_isReader : GoodIn wsX10_goOn wsX10_isReader := goodIn_r _ [9, 10, 11, 12, 8, 13, 25, 26, 27, 28, 29, 30, 31, 32, 33, 34, 35, 36, 37, 38, 39, 40, 41, 42, 43, 44, 45, 46, 47, 48, 49, 50, 51, 52, 53, 54, 55, 56, 57, 58, 59, 60, 61, 62, 63, 64, 65] (by decide +kernel) (by decide +kernel)
set_option maxRecDepth 20000 in
theorem gX10_goOn_X10_isReader : GoodIn wsX10_goOn (wsV RX10 199 RX10 yX10_isReader wsX10_isReader) := goodIn_app (goodIn_of _ (by decide +kernel)) ggX10_goOn_X10_isReader
set_option maxRecDepth 20000 in
theorem ggX10_goOn_X10_asked_ : GoodIn wsX10_goOn wsX10_asked_ := goodIn_r _ [17, 18, 25, 26, 27, 28, 29, 30, 31, 32, 33, 34, 35, 36, 37, 38, 39, 40, 41, 42, 43, 44, 45, 46, 47, 48, 49, 50, 51, 52, 53, 54, 55, 56, 57, 58, 59, 60, 61, 62, 63, 64, 65] (by decide +kernel) (by decide +kernel)
set_option maxRecDepth 20000 in
theorem gX10_goOn_X10_asked_ : GoodIn wsX10_goOn (wsV RX10 127 RX10 yX10_asked_ wsX10_asked_) := goodIn_app (goodIn_of _ (by decide +kernel)) ggX10_goOn_X10_asked_
set_option maxRecDepth 20000 in
theorem ggX10_goOn_X10_voids : GoodIn wsX10_goOn wsX10_voids := goodIn_r _ [22, 4, 23, 24, 25, 26, 27, 28, 29, 30, 31, 32, 33, 34, 35, 36, 37, 38, 39, 40, 41, 42, 43, 44, 45, 46, 47, 48, 49, 50, 51, 52, 53, 54, 55, 56, 57, 58, 59, 60, 61, 62, 63, 64, 65] (by decide +kernel) (by decide +kernel)
set_option maxRecDepth 20000 in
theorem gX10_goOn_X10_voids : GoodIn wsX10_goOn (wsV RX10 209 RX10 yX10_voids wsX10_voids) := goodIn_app (goodIn_of _ (by decide +kernel)) ggX10_goOn_X10_voids
theorem dX10_goOn_0 : decode cX10_goOn 0 = .ok (.aload_n 0, 1) := by decide +kernel
theorem dX10_goOn_1 : decode cX10_goOn 1 = .ok (.iload_n 1, 1) := by decide +kernel
theorem dX10_goOn_2 : decode cX10_goOn 2 = .ok (.invokevirtual 199, 3) := by decide +kernel
theorem dX10_goOn_5 : decode cX10_goOn 5 = .ok (.istore_n 2, 1) := by decide +kernel
theorem dX10_goOn_6 : decode cX10_goOn 6 = .ok (.aload_n 0, 1) := by decide +kernel
theorem dX10_goOn_7 : decode cX10_goOn 7 = .ok (.iload_n 2, 1) := by decide +kernel
theorem dX10_goOn_8 : decode cX10_goOn 8 = .ok (.iload_n 2, 1) := by decide +kernel
theorem dX10_goOn_9 : decode cX10_goOn 9 = .ok (.ifCond .eq 16, 3) := by decide +kernel
theorem dX10_goOn_12 : decode cX10_goOn 12 = .ok (.aload_n 0, 1) := by decide +kernel
theorem dX10_goOn_13 : decode cX10_goOn 13 = .ok (.getfield 60, 3) := by decide +kernel
theorem dX10_goOn_16 : decode cX10_goOn 16 = .ok (.iload_n 1, 1) := by decide +kernel
theorem dX10_goOn_17 : decode cX10_goOn 17 = .ok (.baload, 1) := by decide +kernel
theorem dX10_goOn_18 : decode cX10_goOn 18 = .ok (.ifCond .eq 7, 3) := by decide +kernel
theorem dX10_goOn_21 : decode cX10_goOn 21 = .ok (.iconst 1, 1) := by decide +kernel
theorem dX10_goOn_22 : decode cX10_goOn 22 = .ok (.goto 4, 3) := by decide +kernel
theorem dX10_goOn_25 : decode cX10_goOn 25 = .ok (.iconst 0, 1) := by decide +kernel
theorem dX10_goOn_26 : decode cX10_goOn 26 = .ok (.invokevirtual 127, 3) := by decide +kernel
theorem dX10_goOn_29 : decode cX10_goOn 29 = .ok (.ifCond .ne 5, 3) := by decide +kernel
theorem dX10_goOn_32 : decode cX10_goOn 32 = .ok (.iconst 0, 1) := by decide +kernel
theorem dX10_goOn_33 : decode cX10_goOn 33 = .ok (.ireturn, 1) := by decide +kernel
theorem dX10_goOn_34 : decode cX10_goOn 34 = .ok (.aload_n 0, 1) := by decide +kernel
theorem dX10_goOn_35 : decode cX10_goOn 35 = .ok (.getfield 60, 3) := by decide +kernel
theorem dX10_goOn_38 : decode cX10_goOn 38 = .ok (.iload_n 1, 1) := by decide +kernel
theorem dX10_goOn_39 : decode cX10_goOn 39 = .ok (.iconst 0, 1) := by decide +kernel
theorem dX10_goOn_40 : decode cX10_goOn 40 = .ok (.bastore, 1) := by decide +kernel
theorem dX10_goOn_41 : decode cX10_goOn 41 = .ok (.aload_n 0, 1) := by decide +kernel
theorem dX10_goOn_42 : decode cX10_goOn 42 = .ok (.getfield 69, 3) := by decide +kernel
theorem dX10_goOn_45 : decode cX10_goOn 45 = .ok (.iload_n 1, 1) := by decide +kernel
theorem dX10_goOn_46 : decode cX10_goOn 46 = .ok (.iconst 0, 1) := by decide +kernel
theorem dX10_goOn_47 : decode cX10_goOn 47 = .ok (.iastore, 1) := by decide +kernel
theorem dX10_goOn_48 : decode cX10_goOn 48 = .ok (.aload_n 0, 1) := by decide +kernel
theorem dX10_goOn_49 : decode cX10_goOn 49 = .ok (.getfield 72, 3) := by decide +kernel
theorem dX10_goOn_52 : decode cX10_goOn 52 = .ok (.iload_n 1, 1) := by decide +kernel
theorem dX10_goOn_53 : decode cX10_goOn 53 = .ok (.aload_n 0, 1) := by decide +kernel
theorem dX10_goOn_54 : decode cX10_goOn 54 = .ok (.getfield 158, 3) := by decide +kernel
theorem dX10_goOn_57 : decode cX10_goOn 57 = .ok (.iastore, 1) := by decide +kernel
theorem dX10_goOn_58 : decode cX10_goOn 58 = .ok (.aload_n 0, 1) := by decide +kernel
theorem dX10_goOn_59 : decode cX10_goOn 59 = .ok (.iload_n 1, 1) := by decide +kernel
theorem dX10_goOn_60 : decode cX10_goOn 60 = .ok (.invokevirtual 209, 3) := by decide +kernel
theorem dX10_goOn_63 : decode cX10_goOn 63 = .ok (.ireturn, 1) := by decide +kernel
set_option maxRecDepth 20000 in
theorem ggX10_plain_X10_hasAnswer : GoodIn wsX10_plain wsX10_hasAnswer := goodIn_r _ [6, 7, 61, 62, 63, 64, 65, 66, 67, 68, 69, 70, 71, 72, 73, 74, 75, 76, 77, 78, 79, 80, 81, 82, 83, 84, 85, 86, 87, 88, 89, 90, 91, 92, 93, 94, 95, 96, 97, 98, 99, 100, 101] (by decide +kernel) (by decide +kernel)
set_option maxRecDepth 20000 in
theorem gX10_plain_X10_hasAnswer : GoodIn wsX10_plain (wsV RX10 184 RX10 yX10_hasAnswer wsX10_hasAnswer) := goodIn_app (goodIn_of _ (by decide +kernel)) ggX10_plain_X10_hasAnswer
set_option maxRecDepth 20000 in
theorem ggX10_plain_X10_wantsFirst : GoodIn wsX10_plain wsX10_wantsFirst := goodIn_r _ [11, 1, 12, 13, 14, 5, 15, 16, 17, 18, 19, 20, 21, 22, 23, 24, 25, 26, 27, 28, 29, 30, 31, 32, 33, 34, 35, 36, 37, 38, 39, 40, 41, 42, 43, 44, 45, 46, 47, 48, 49, 50, 51, 52, 53, 54, 55, 56, 57, 58, 59, 60, 61, 62, 63, 64, 65, 66, 67, 68, 69, 70, 71, 72, 73, 74, 75, 76, 77, 78, 79, 80, 81, 82, 83, 84, 85, 86, 87, 88, 89, 90, 91, 92, 93, 94, 95, 96, 97, 98, 99, 100, 101] (by decide +kernel) (by decide +kernel)
set_option maxRecDepth 20000 in
theorem gX10_plain_X10_wantsFirst : GoodIn wsX10_plain (wsV RX10 187 RX10 yX10_wantsFirst wsX10_wantsFirst) := goodIn_app (goodIn_of _ (by decide +kernel)) ggX10_plain_X10_wantsFirst
set_option maxRecDepth 20000 in
theorem ggX10_plain_X10_reading : GoodIn wsX10_plain wsX10_reading := goodIn_r _ [15, 16, 17, 18, 19, 20, 21, 5, 22, 23, 24, 25, 26, 27, 28, 29, 30, 61, 62, 63, 64, 65, 66, 67, 68, 69, 70, 71, 72, 73, 74, 75, 76, 77, 78, 79, 80, 81, 82, 83, 84, 85, 86, 87, 88, 89, 90, 91, 92, 93, 94, 95, 96, 97, 98, 99, 100, 101] (by decide +kernel) (by decide +kernel)
set_option maxRecDepth 20000 in
theorem gX10_plain_X10_reading : GoodIn wsX10_plain (wsV RX10 168 RX10 yX10_reading wsX10_reading) := goodIn_app (goodIn_of _ (by decide +kernel)) ggX10_plain_X10_reading
set_option maxRecDepth 20000 in
theorem ggX10_plain_X10_markBy : GoodIn wsX10_plain wsX10_markBy := goodIn_r _ [39, 17, 40, 26, 27, 28, 5, 29, 30, 41, 42, 43, 44, 45, 46, 47, 48, 49, 50, 51, 61, 62, 63, 64, 65, 66, 67, 68, 69, 70, 71, 72, 73, 74, 75, 76, 77, 78, 79, 80, 81, 82, 83, 84, 85, 86, 87, 88, 89, 90, 91, 92, 93, 94, 95, 96, 97, 98, 99, 100, 101] (by decide +kernel) (by decide +kernel)
set_option maxRecDepth 20000 in
theorem gX10_plain_X10_markBy : GoodIn wsX10_plain (wsV RX10 172 RX10 yX10_markBy wsX10_markBy) := goodIn_app (goodIn_of _ (by decide +kernel)) ggX10_plain_X10_markBy
set_option maxRecDepth 20000 in
theorem ggX10_plain_X10_isApart : GoodIn wsX10_plain wsX10_isApart := goodIn_r _ [34, 35, 12, 13, 14, 5, 15, 16, 17, 18, 19, 20, 21, 22, 23, 24, 25, 26, 27, 28, 29, 30, 36, 37, 38, 39, 40, 41, 42, 43, 44, 45, 46, 47, 48, 49, 50, 51, 52, 53, 54, 61, 62, 63, 64, 65, 66, 67, 68, 69, 70, 71, 72, 73, 74, 75, 76, 77, 78, 79, 80, 81, 82, 83, 84, 85, 86, 87, 88, 89, 90, 91, 92, 93, 94, 95, 96, 97, 98, 99, 100, 101] (by decide +kernel) (by decide +kernel)
set_option maxRecDepth 20000 in
theorem gX10_plain_X10_isApart : GoodIn wsX10_plain (wsV RX10 178 RX10 yX10_isApart wsX10_isApart) := goodIn_app (goodIn_of _ (by decide +kernel)) ggX10_plain_X10_isApart
set_option maxRecDepth 20000 in
theorem ggX10_plain_X10_third : GoodIn wsX10_plain wsX10_third := goodIn_r _ [58, 59, 60, 12, 13, 14, 5, 15, 16, 17, 18, 19, 20, 21, 22, 23, 24, 25, 26, 27, 28, 29, 30, 61, 62, 63, 64, 65, 66, 67, 68, 69, 70, 71, 72, 73, 74, 75, 76, 77, 78, 79, 80, 81, 82, 83, 84, 85, 86, 87, 88, 89, 90, 91, 92, 93, 94, 95, 96, 97, 98, 99, 100, 101] (by decide +kernel) (by decide +kernel)
set_option maxRecDepth 20000 in
theorem gX10_plain_X10_third : GoodIn wsX10_plain (wsV RX10 181 RX10 yX10_third wsX10_third) := goodIn_app (goodIn_of _ (by decide +kernel)) ggX10_plain_X10_third
theorem dX10_plain_0 : decode cX10_plain 0 = .ok (.aload_n 0, 1) := by decide +kernel
theorem dX10_plain_1 : decode cX10_plain 1 = .ok (.iload_n 1, 1) := by decide +kernel
theorem dX10_plain_2 : decode cX10_plain 2 = .ok (.invokevirtual 184, 3) := by decide +kernel
theorem dX10_plain_5 : decode cX10_plain 5 = .ok (.ifCond .ne 5, 3) := by decide +kernel
theorem dX10_plain_8 : decode cX10_plain 8 = .ok (.iconst 0, 1) := by decide +kernel
theorem dX10_plain_9 : decode cX10_plain 9 = .ok (.ireturn, 1) := by decide +kernel
theorem dX10_plain_10 : decode cX10_plain 10 = .ok (.aload_n 0, 1) := by decide +kernel
theorem dX10_plain_11 : decode cX10_plain 11 = .ok (.iload_n 1, 1) := by decide +kernel
theorem dX10_plain_12 : decode cX10_plain 12 = .ok (.invokevirtual 187, 3) := by decide +kernel
theorem dX10_plain_15 : decode cX10_plain 15 = .ok (.ifCond .le 5, 3) := by decide +kernel
theorem dX10_plain_18 : decode cX10_plain 18 = .ok (.iconst (-1), 1) := by decide +kernel
theorem dX10_plain_19 : decode cX10_plain 19 = .ok (.ireturn, 1) := by decide +kernel
theorem dX10_plain_20 : decode cX10_plain 20 = .ok (.aload_n 0, 1) := by decide +kernel
theorem dX10_plain_21 : decode cX10_plain 21 = .ok (.aload_n 0, 1) := by decide +kernel
theorem dX10_plain_22 : decode cX10_plain 22 = .ok (.iload_n 1, 1) := by decide +kernel
theorem dX10_plain_23 : decode cX10_plain 23 = .ok (.iconst 0, 1) := by decide +kernel
theorem dX10_plain_24 : decode cX10_plain 24 = .ok (.iconst 0, 1) := by decide +kernel
theorem dX10_plain_25 : decode cX10_plain 25 = .ok (.invokevirtual 168, 3) := by decide +kernel
theorem dX10_plain_28 : decode cX10_plain 28 = .ok (.invokevirtual 172, 3) := by decide +kernel
theorem dX10_plain_31 : decode cX10_plain 31 = .ok (.istore_n 2, 1) := by decide +kernel
theorem dX10_plain_32 : decode cX10_plain 32 = .ok (.aload_n 0, 1) := by decide +kernel
theorem dX10_plain_33 : decode cX10_plain 33 = .ok (.getfield 48, 3) := by decide +kernel
theorem dX10_plain_36 : decode cX10_plain 36 = .ok (.iload_n 1, 1) := by decide +kernel
theorem dX10_plain_37 : decode cX10_plain 37 = .ok (.iconst 4, 1) := by decide +kernel
theorem dX10_plain_38 : decode cX10_plain 38 = .ok (.irem, 1) := by decide +kernel
theorem dX10_plain_39 : decode cX10_plain 39 = .ok (.baload, 1) := by decide +kernel
theorem dX10_plain_40 : decode cX10_plain 40 = .ok (.ifCond .ne 5, 3) := by decide +kernel
theorem dX10_plain_43 : decode cX10_plain 43 = .ok (.iload_n 2, 1) := by decide +kernel
theorem dX10_plain_44 : decode cX10_plain 44 = .ok (.ireturn, 1) := by decide +kernel
theorem dX10_plain_45 : decode cX10_plain 45 = .ok (.aload_n 0, 1) := by decide +kernel
theorem dX10_plain_46 : decode cX10_plain 46 = .ok (.iload_n 1, 1) := by decide +kernel
theorem dX10_plain_47 : decode cX10_plain 47 = .ok (.invokevirtual 178, 3) := by decide +kernel
theorem dX10_plain_50 : decode cX10_plain 50 = .ok (.ifCond .eq 15, 3) := by decide +kernel
theorem dX10_plain_53 : decode cX10_plain 53 = .ok (.aload_n 0, 1) := by decide +kernel
theorem dX10_plain_54 : decode cX10_plain 54 = .ok (.aload_n 0, 1) := by decide +kernel
theorem dX10_plain_55 : decode cX10_plain 55 = .ok (.iload_n 1, 1) := by decide +kernel
theorem dX10_plain_56 : decode cX10_plain 56 = .ok (.invokevirtual 181, 3) := by decide +kernel
theorem dX10_plain_59 : decode cX10_plain 59 = .ok (.invokevirtual 172, 3) := by decide +kernel
theorem dX10_plain_62 : decode cX10_plain 62 = .ok (.goto 20, 3) := by decide +kernel
theorem dX10_plain_65 : decode cX10_plain 65 = .ok (.iload_n 2, 1) := by decide +kernel
theorem dX10_plain_66 : decode cX10_plain 66 = .ok (.aload_n 0, 1) := by decide +kernel
theorem dX10_plain_67 : decode cX10_plain 67 = .ok (.aload_n 0, 1) := by decide +kernel
theorem dX10_plain_68 : decode cX10_plain 68 = .ok (.iload_n 1, 1) := by decide +kernel
theorem dX10_plain_69 : decode cX10_plain 69 = .ok (.iconst 1, 1) := by decide +kernel
theorem dX10_plain_70 : decode cX10_plain 70 = .ok (.iconst 0, 1) := by decide +kernel
theorem dX10_plain_71 : decode cX10_plain 71 = .ok (.invokevirtual 168, 3) := by decide +kernel
theorem dX10_plain_74 : decode cX10_plain 74 = .ok (.invokevirtual 172, 3) := by decide +kernel
theorem dX10_plain_77 : decode cX10_plain 77 = .ok (.iadd, 1) := by decide +kernel
theorem dX10_plain_78 : decode cX10_plain 78 = .ok (.iconst 1, 1) := by decide +kernel
theorem dX10_plain_79 : decode cX10_plain 79 = .ok (.iadd, 1) := by decide +kernel
theorem dX10_plain_80 : decode cX10_plain 80 = .ok (.iconst 2, 1) := by decide +kernel
theorem dX10_plain_81 : decode cX10_plain 81 = .ok (.idiv, 1) := by decide +kernel
theorem dX10_plain_82 : decode cX10_plain 82 = .ok (.ireturn, 1) := by decide +kernel
set_option maxRecDepth 20000 in
theorem ggX10_marked_X10_plain : GoodIn wsX10_marked wsX10_plain := goodIn_r _ [7, 8, 9, 10, 11, 6, 12, 13, 14, 15, 16, 17, 18, 19, 20, 21, 22, 23, 24, 25, 26, 27, 28, 29, 30, 31, 32, 33, 34, 35, 36, 37, 38, 39, 40, 2, 41, 42, 43, 44, 45, 46, 47, 48, 49, 50, 51, 52, 53, 54, 55, 56, 57, 58, 59, 60, 61, 62, 63, 64, 65, 66, 67, 68, 69, 70, 71, 72, 73, 74, 75, 76, 77, 78, 79, 80, 81, 82, 83, 84, 85, 86, 87, 88, 89, 90, 91, 92, 93, 94, 95, 96, 97, 98, 99, 100, 101, 102, 103, 104, 105, 106] (by decide +kernel) (by decide +kernel)
set_option maxRecDepth 20000 in
theorem gX10_marked_X10_plain : GoodIn wsX10_marked (wsV RX10 212 RX10 yX10_plain wsX10_plain) := goodIn_app (goodIn_of _ (by decide +kernel)) ggX10_marked_X10_plain
set_option maxRecDepth 20000 in
theorem ggX10_marked_X10_reading : GoodIn wsX10_marked wsX10_reading := goodIn_r _ [21, 22, 23, 24, 25, 26, 27, 6, 28, 29, 30, 31, 32, 33, 34, 35, 36, 66, 67, 68, 69, 70, 71, 72, 73, 74, 75, 76, 77, 78, 79, 80, 81, 82, 83, 84, 85, 86, 87, 88, 89, 90, 91, 92, 93, 94, 95, 96, 97, 98, 99, 100, 101, 102, 103, 104, 105, 106] (by decide +kernel) (by decide +kernel)
set_option maxRecDepth 20000 in
theorem gX10_marked_X10_reading : GoodIn wsX10_marked (wsV RX10 168 RX10 yX10_reading wsX10_reading) := goodIn_app (goodIn_of _ (by decide +kernel)) ggX10_marked_X10_reading
set_option maxRecDepth 20000 in
theorem ggX10_marked_X10_markBy : GoodIn wsX10_marked wsX10_markBy := goodIn_r _ [44, 23, 45, 32, 33, 34, 6, 35, 36, 46, 47, 48, 49, 50, 51, 52, 53, 54, 55, 56, 66, 67, 68, 69, 70, 71, 72, 73, 74, 75, 76, 77, 78, 79, 80, 81, 82, 83, 84, 85, 86, 87, 88, 89, 90, 91, 92, 93, 94, 95, 96, 97, 98, 99, 100, 101, 102, 103, 104, 105, 106] (by decide +kernel) (by decide +kernel)
set_option maxRecDepth 20000 in
theorem gX10_marked_X10_markBy : GoodIn wsX10_marked (wsV RX10 172 RX10 yX10_markBy wsX10_markBy) := goodIn_app (goodIn_of _ (by decide +kernel)) ggX10_marked_X10_markBy
set_option maxRecDepth 20000 in
theorem ggX10_marked_X10_apart : GoodIn wsX10_marked wsX10_apart := goodIn_r _ [59] (by decide +kernel) (by decide +kernel)
set_option maxRecDepth 20000 in
theorem gX10_marked_X10_apart : GoodIn wsX10_marked (va_wsS RX10 175 yX10_apart wsX10_apart) := goodIn_app (goodIn_of _ (by decide +kernel)) ggX10_marked_X10_apart
theorem dX10_marked_0 : decode cX10_marked 0 = .ok (.aload_n 0, 1) := by decide +kernel
theorem dX10_marked_1 : decode cX10_marked 1 = .ok (.iload_n 1, 1) := by decide +kernel
theorem dX10_marked_2 : decode cX10_marked 2 = .ok (.invokevirtual 212, 3) := by decide +kernel
theorem dX10_marked_5 : decode cX10_marked 5 = .ok (.istore_n 2, 1) := by decide +kernel
theorem dX10_marked_6 : decode cX10_marked 6 = .ok (.aload_n 0, 1) := by decide +kernel
theorem dX10_marked_7 : decode cX10_marked 7 = .ok (.getfield 30, 3) := by decide +kernel
theorem dX10_marked_10 : decode cX10_marked 10 = .ok (.iload_n 1, 1) := by decide +kernel
theorem dX10_marked_11 : decode cX10_marked 11 = .ok (.baload, 1) := by decide +kernel
theorem dX10_marked_12 : decode cX10_marked 12 = .ok (.ifCond .eq 13, 3) := by decide +kernel
theorem dX10_marked_15 : decode cX10_marked 15 = .ok (.aload_n 0, 1) := by decide +kernel
theorem dX10_marked_16 : decode cX10_marked 16 = .ok (.iload_n 1, 1) := by decide +kernel
theorem dX10_marked_17 : decode cX10_marked 17 = .ok (.iconst 0, 1) := by decide +kernel
theorem dX10_marked_18 : decode cX10_marked 18 = .ok (.iconst 1, 1) := by decide +kernel
theorem dX10_marked_19 : decode cX10_marked 19 = .ok (.invokevirtual 168, 3) := by decide +kernel
theorem dX10_marked_22 : decode cX10_marked 22 = .ok (.goto 4, 3) := by decide +kernel
theorem dX10_marked_25 : decode cX10_marked 25 = .ok (.iconst (-1), 1) := by decide +kernel
theorem dX10_marked_26 : decode cX10_marked 26 = .ok (.istore_n 3, 1) := by decide +kernel
theorem dX10_marked_27 : decode cX10_marked 27 = .ok (.iload_n 2, 1) := by decide +kernel
theorem dX10_marked_28 : decode cX10_marked 28 = .ok (.iconst (-1), 1) := by decide +kernel
theorem dX10_marked_29 : decode cX10_marked 29 = .ok (.if_icmp .eq 16, 3) := by decide +kernel
theorem dX10_marked_32 : decode cX10_marked 32 = .ok (.iload_n 3, 1) := by decide +kernel
theorem dX10_marked_33 : decode cX10_marked 33 = .ok (.iconst (-1), 1) := by decide +kernel
theorem dX10_marked_34 : decode cX10_marked 34 = .ok (.if_icmp .eq 11, 3) := by decide +kernel
theorem dX10_marked_37 : decode cX10_marked 37 = .ok (.aload_n 0, 1) := by decide +kernel
theorem dX10_marked_38 : decode cX10_marked 38 = .ok (.iload_n 3, 1) := by decide +kernel
theorem dX10_marked_39 : decode cX10_marked 39 = .ok (.invokevirtual 172, 3) := by decide +kernel
theorem dX10_marked_42 : decode cX10_marked 42 = .ok (.goto 4, 3) := by decide +kernel
theorem dX10_marked_45 : decode cX10_marked 45 = .ok (.iload_n 2, 1) := by decide +kernel
theorem dX10_marked_46 : decode cX10_marked 46 = .ok (.istore 4, 2) := by decide +kernel
theorem dX10_marked_48 : decode cX10_marked 48 = .ok (.iload_n 2, 1) := by decide +kernel
theorem dX10_marked_49 : decode cX10_marked 49 = .ok (.iload 4, 2) := by decide +kernel
theorem dX10_marked_51 : decode cX10_marked 51 = .ok (.invokestatic 175, 3) := by decide +kernel
theorem dX10_marked_54 : decode cX10_marked 54 = .ok (.aload_n 0, 1) := by decide +kernel
theorem dX10_marked_55 : decode cX10_marked 55 = .ok (.getfield 13, 3) := by decide +kernel
theorem dX10_marked_58 : decode cX10_marked 58 = .ok (.if_icmp .le 8, 3) := by decide +kernel
theorem dX10_marked_61 : decode cX10_marked 61 = .ok (.iload 4, 2) := by decide +kernel
theorem dX10_marked_63 : decode cX10_marked 63 = .ok (.goto 4, 3) := by decide +kernel
theorem dX10_marked_66 : decode cX10_marked 66 = .ok (.iload_n 2, 1) := by decide +kernel
theorem dX10_marked_67 : decode cX10_marked 67 = .ok (.ireturn, 1) := by decide +kernel
set_option maxRecDepth 20000 in
theorem ggX10_totalOf_X10_marked : GoodIn wsX10_totalOf wsX10_marked := goodIn_r _ [6, 7, 8, 9, 10, 11, 5, 12, 13, 14, 15, 16, 17, 18, 19, 20, 21, 22, 23, 24, 25, 26, 27, 28, 29, 30, 31, 32, 33, 34, 35, 36, 37, 38, 39, 40, 41, 42, 43, 44, 45, 46, 47, 48, 49, 50, 51, 52, 53, 54, 55, 56, 57, 58, 59, 60, 61, 62, 63, 64, 65, 66, 67, 68, 69, 70, 71, 72, 73, 74, 75, 76, 77, 78, 79, 80, 81, 82, 83, 84, 85, 86, 87, 88, 89, 90, 91, 92, 93, 94, 95, 96, 97, 98, 99, 100, 101, 102, 103, 104, 105, 106, 107, 108, 109, 110, 111] (by decide +kernel) (by decide +kernel)
set_option maxRecDepth 20000 in
theorem gX10_totalOf_X10_marked : GoodIn wsX10_totalOf (wsV RX10 215 RX10 yX10_marked wsX10_marked) := goodIn_app (goodIn_of _ (by decide +kernel)) ggX10_totalOf_X10_marked
theorem dX10_totalOf_0 : decode cX10_totalOf 0 = .ok (.iconst 0, 1) := by decide +kernel
theorem dX10_totalOf_1 : decode cX10_totalOf 1 = .ok (.istore_n 2, 1) := by decide +kernel
theorem dX10_totalOf_2 : decode cX10_totalOf 2 = .ok (.iconst 1, 1) := by decide +kernel
theorem dX10_totalOf_3 : decode cX10_totalOf 3 = .ok (.istore_n 3, 1) := by decide +kernel
theorem dX10_totalOf_4 : decode cX10_totalOf 4 = .ok (.iconst 0, 1) := by decide +kernel
theorem dX10_totalOf_5 : decode cX10_totalOf 5 = .ok (.istore 4, 2) := by decide +kernel
theorem dX10_totalOf_7 : decode cX10_totalOf 7 = .ok (.iconst 0, 1) := by decide +kernel
theorem dX10_totalOf_8 : decode cX10_totalOf 8 = .ok (.istore 5, 2) := by decide +kernel
theorem dX10_totalOf_10 : decode cX10_totalOf 10 = .ok (.iload 5, 2) := by decide +kernel
theorem dX10_totalOf_12 : decode cX10_totalOf 12 = .ok (.iconst 4, 1) := by decide +kernel
theorem dX10_totalOf_13 : decode cX10_totalOf 13 = .ok (.if_icmp .ge 74, 3) := by decide +kernel
theorem dX10_totalOf_16 : decode cX10_totalOf 16 = .ok (.aload_n 0, 1) := by decide +kernel
theorem dX10_totalOf_17 : decode cX10_totalOf 17 = .ok (.iconst 4, 1) := by decide +kernel
theorem dX10_totalOf_18 : decode cX10_totalOf 18 = .ok (.iload_n 1, 1) := by decide +kernel
theorem dX10_totalOf_19 : decode cX10_totalOf 19 = .ok (.imul, 1) := by decide +kernel
theorem dX10_totalOf_20 : decode cX10_totalOf 20 = .ok (.iload 5, 2) := by decide +kernel
theorem dX10_totalOf_22 : decode cX10_totalOf 22 = .ok (.iadd, 1) := by decide +kernel
theorem dX10_totalOf_23 : decode cX10_totalOf 23 = .ok (.invokevirtual 215, 3) := by decide +kernel
theorem dX10_totalOf_26 : decode cX10_totalOf 26 = .ok (.istore 6, 2) := by decide +kernel
theorem dX10_totalOf_28 : decode cX10_totalOf 28 = .ok (.iload_n 3, 1) := by decide +kernel
theorem dX10_totalOf_29 : decode cX10_totalOf 29 = .ok (.ifCond .eq 13, 3) := by decide +kernel
theorem dX10_totalOf_32 : decode cX10_totalOf 32 = .ok (.iload 6, 2) := by decide +kernel
theorem dX10_totalOf_34 : decode cX10_totalOf 34 = .ok (.iconst (-1), 1) := by decide +kernel
theorem dX10_totalOf_35 : decode cX10_totalOf 35 = .ok (.if_icmp .eq 7, 3) := by decide +kernel
theorem dX10_totalOf_38 : decode cX10_totalOf 38 = .ok (.iconst 1, 1) := by decide +kernel
theorem dX10_totalOf_39 : decode cX10_totalOf 39 = .ok (.goto 4, 3) := by decide +kernel
theorem dX10_totalOf_42 : decode cX10_totalOf 42 = .ok (.iconst 0, 1) := by decide +kernel
theorem dX10_totalOf_43 : decode cX10_totalOf 43 = .ok (.istore_n 3, 1) := by decide +kernel
theorem dX10_totalOf_44 : decode cX10_totalOf 44 = .ok (.iload_n 2, 1) := by decide +kernel
theorem dX10_totalOf_45 : decode cX10_totalOf 45 = .ok (.iload 5, 2) := by decide +kernel
theorem dX10_totalOf_47 : decode cX10_totalOf 47 = .ok (.iconst 2, 1) := by decide +kernel
theorem dX10_totalOf_48 : decode cX10_totalOf 48 = .ok (.if_icmp .ge 8, 3) := by decide +kernel
theorem dX10_totalOf_51 : decode cX10_totalOf 51 = .ok (.iload 6, 2) := by decide +kernel
theorem dX10_totalOf_53 : decode cX10_totalOf 53 = .ok (.goto 4, 3) := by decide +kernel
theorem dX10_totalOf_56 : decode cX10_totalOf 56 = .ok (.iconst 0, 1) := by decide +kernel
theorem dX10_totalOf_57 : decode cX10_totalOf 57 = .ok (.iadd, 1) := by decide +kernel
theorem dX10_totalOf_58 : decode cX10_totalOf 58 = .ok (.istore_n 2, 1) := by decide +kernel
theorem dX10_totalOf_59 : decode cX10_totalOf 59 = .ok (.iload 5, 2) := by decide +kernel
theorem dX10_totalOf_61 : decode cX10_totalOf 61 = .ok (.iconst 2, 1) := by decide +kernel
theorem dX10_totalOf_62 : decode cX10_totalOf 62 = .ok (.if_icmp .lt 15, 3) := by decide +kernel
theorem dX10_totalOf_65 : decode cX10_totalOf 65 = .ok (.iload 6, 2) := by decide +kernel
theorem dX10_totalOf_67 : decode cX10_totalOf 67 = .ok (.iload 4, 2) := by decide +kernel
theorem dX10_totalOf_69 : decode cX10_totalOf 69 = .ok (.if_icmp .le 8, 3) := by decide +kernel
theorem dX10_totalOf_72 : decode cX10_totalOf 72 = .ok (.iload 6, 2) := by decide +kernel
theorem dX10_totalOf_74 : decode cX10_totalOf 74 = .ok (.goto 5, 3) := by decide +kernel
theorem dX10_totalOf_77 : decode cX10_totalOf 77 = .ok (.iload 4, 2) := by decide +kernel
theorem dX10_totalOf_79 : decode cX10_totalOf 79 = .ok (.istore 4, 2) := by decide +kernel
theorem dX10_totalOf_81 : decode cX10_totalOf 81 = .ok (.iinc 5 1, 3) := by decide +kernel
theorem dX10_totalOf_84 : decode cX10_totalOf 84 = .ok (.goto (-74), 3) := by decide +kernel
theorem dX10_totalOf_87 : decode cX10_totalOf 87 = .ok (.iload_n 3, 1) := by decide +kernel
theorem dX10_totalOf_88 : decode cX10_totalOf 88 = .ok (.ifCond .eq 17, 3) := by decide +kernel
theorem dX10_totalOf_91 : decode cX10_totalOf 91 = .ok (.iload_n 2, 1) := by decide +kernel
theorem dX10_totalOf_92 : decode cX10_totalOf 92 = .ok (.iload 4, 2) := by decide +kernel
theorem dX10_totalOf_94 : decode cX10_totalOf 94 = .ok (.iadd, 1) := by decide +kernel
theorem dX10_totalOf_95 : decode cX10_totalOf 95 = .ok (.aload_n 0, 1) := by decide +kernel
theorem dX10_totalOf_96 : decode cX10_totalOf 96 = .ok (.getfield 27, 3) := by decide +kernel
theorem dX10_totalOf_99 : decode cX10_totalOf 99 = .ok (.iload_n 1, 1) := by decide +kernel
theorem dX10_totalOf_100 : decode cX10_totalOf 100 = .ok (.iaload, 1) := by decide +kernel
theorem dX10_totalOf_101 : decode cX10_totalOf 101 = .ok (.iadd, 1) := by decide +kernel
theorem dX10_totalOf_102 : decode cX10_totalOf 102 = .ok (.goto 4, 3) := by decide +kernel
theorem dX10_totalOf_105 : decode cX10_totalOf 105 = .ok (.iconst (-1), 1) := by decide +kernel
theorem dX10_totalOf_106 : decode cX10_totalOf 106 = .ok (.ireturn, 1) := by decide +kernel
set_option maxRecDepth 20000 in
theorem ggX10_gradeOf_X10_totalOf : GoodIn wsX10_gradeOf wsX10_totalOf := goodIn_r _ [6, 7, 8, 9, 10, 5, 11, 12, 13, 14, 15, 16, 17, 18, 19, 20, 21, 22, 23, 24, 25, 26, 27, 28, 29, 30, 31, 32, 33, 34, 35, 36, 37, 38, 39, 40, 41, 42, 43, 44, 45, 46, 47, 48, 49, 50, 51, 52, 53, 54, 55, 56, 57, 58, 59, 60, 61, 62, 63, 64, 65, 66, 67, 68, 69, 70, 71, 72, 73, 74, 75, 76, 77, 78, 79, 80, 81, 82, 83, 84, 85, 86, 87, 88, 89, 90, 91, 92, 93, 94, 95, 96, 97, 98, 99, 100, 101, 102, 103, 104, 105, 106, 107, 108, 109, 110, 111, 112, 113, 114, 115, 116] (by decide +kernel) (by decide +kernel)
set_option maxRecDepth 20000 in
theorem gX10_gradeOf_X10_totalOf : GoodIn wsX10_gradeOf (wsV RX10 218 RX10 yX10_totalOf wsX10_totalOf) := goodIn_app (goodIn_of _ (by decide +kernel)) ggX10_gradeOf_X10_totalOf
theorem dX10_gradeOf_0 : decode cX10_gradeOf 0 = .ok (.aload_n 0, 1) := by decide +kernel
theorem dX10_gradeOf_1 : decode cX10_gradeOf 1 = .ok (.iload_n 1, 1) := by decide +kernel
theorem dX10_gradeOf_2 : decode cX10_gradeOf 2 = .ok (.invokevirtual 218, 3) := by decide +kernel
theorem dX10_gradeOf_5 : decode cX10_gradeOf 5 = .ok (.istore_n 2, 1) := by decide +kernel
theorem dX10_gradeOf_6 : decode cX10_gradeOf 6 = .ok (.iload_n 2, 1) := by decide +kernel
theorem dX10_gradeOf_7 : decode cX10_gradeOf 7 = .ok (.iconst (-1), 1) := by decide +kernel
theorem dX10_gradeOf_8 : decode cX10_gradeOf 8 = .ok (.if_icmp .ne 7, 3) := by decide +kernel
theorem dX10_gradeOf_11 : decode cX10_gradeOf 11 = .ok (.iconst (-1), 1) := by decide +kernel
theorem dX10_gradeOf_12 : decode cX10_gradeOf 12 = .ok (.goto 46, 3) := by decide +kernel
theorem dX10_gradeOf_15 : decode cX10_gradeOf 15 = .ok (.iload_n 2, 1) := by decide +kernel
theorem dX10_gradeOf_16 : decode cX10_gradeOf 16 = .ok (.aload_n 0, 1) := by decide +kernel
theorem dX10_gradeOf_17 : decode cX10_gradeOf 17 = .ok (.getfield 36, 3) := by decide +kernel
theorem dX10_gradeOf_20 : decode cX10_gradeOf 20 = .ok (.iconst 0, 1) := by decide +kernel
theorem dX10_gradeOf_21 : decode cX10_gradeOf 21 = .ok (.iaload, 1) := by decide +kernel
theorem dX10_gradeOf_22 : decode cX10_gradeOf 22 = .ok (.if_icmp .lt 7, 3) := by decide +kernel
theorem dX10_gradeOf_25 : decode cX10_gradeOf 25 = .ok (.iconst 3, 1) := by decide +kernel
theorem dX10_gradeOf_26 : decode cX10_gradeOf 26 = .ok (.goto 32, 3) := by decide +kernel
theorem dX10_gradeOf_29 : decode cX10_gradeOf 29 = .ok (.iload_n 2, 1) := by decide +kernel
theorem dX10_gradeOf_30 : decode cX10_gradeOf 30 = .ok (.aload_n 0, 1) := by decide +kernel
theorem dX10_gradeOf_31 : decode cX10_gradeOf 31 = .ok (.getfield 36, 3) := by decide +kernel
theorem dX10_gradeOf_34 : decode cX10_gradeOf 34 = .ok (.iconst 1, 1) := by decide +kernel
theorem dX10_gradeOf_35 : decode cX10_gradeOf 35 = .ok (.iaload, 1) := by decide +kernel
theorem dX10_gradeOf_36 : decode cX10_gradeOf 36 = .ok (.if_icmp .lt 7, 3) := by decide +kernel
theorem dX10_gradeOf_39 : decode cX10_gradeOf 39 = .ok (.iconst 2, 1) := by decide +kernel
theorem dX10_gradeOf_40 : decode cX10_gradeOf 40 = .ok (.goto 18, 3) := by decide +kernel
theorem dX10_gradeOf_43 : decode cX10_gradeOf 43 = .ok (.iload_n 2, 1) := by decide +kernel
theorem dX10_gradeOf_44 : decode cX10_gradeOf 44 = .ok (.aload_n 0, 1) := by decide +kernel
theorem dX10_gradeOf_45 : decode cX10_gradeOf 45 = .ok (.getfield 36, 3) := by decide +kernel
theorem dX10_gradeOf_48 : decode cX10_gradeOf 48 = .ok (.iconst 2, 1) := by decide +kernel
theorem dX10_gradeOf_49 : decode cX10_gradeOf 49 = .ok (.iaload, 1) := by decide +kernel
theorem dX10_gradeOf_50 : decode cX10_gradeOf 50 = .ok (.if_icmp .lt 7, 3) := by decide +kernel
theorem dX10_gradeOf_53 : decode cX10_gradeOf 53 = .ok (.iconst 1, 1) := by decide +kernel
theorem dX10_gradeOf_54 : decode cX10_gradeOf 54 = .ok (.goto 4, 3) := by decide +kernel
theorem dX10_gradeOf_57 : decode cX10_gradeOf 57 = .ok (.iconst 0, 1) := by decide +kernel
theorem dX10_gradeOf_58 : decode cX10_gradeOf 58 = .ok (.ireturn, 1) := by decide +kernel
set_option maxRecDepth 20000 in
theorem ggX10_lines_X10_in : GoodIn wsX10_lines wsX10_in := goodIn_r _ [7] (by decide +kernel) (by decide +kernel)
set_option maxRecDepth 20000 in
theorem gX10_lines_X10_in : GoodIn wsX10_lines (va_wsS RX10 120 yX10_in wsX10_in) := goodIn_app (goodIn_of _ (by decide +kernel)) ggX10_lines_X10_in
set_option maxRecDepth 20000 in
theorem ggX10_lines_X10_asked_ : GoodIn wsX10_lines wsX10_asked_ := goodIn_r _ [11, 12, 87, 88, 89, 90, 91, 92, 93, 94, 95, 96, 97, 98, 99, 100, 101, 102, 103, 104, 105, 106, 107, 108, 109, 110, 111, 112, 113, 114, 115, 116, 117, 118, 119, 120, 121, 122, 123, 124, 125, 126, 127] (by decide +kernel) (by decide +kernel)
set_option maxRecDepth 20000 in
theorem gX10_lines_X10_asked_ : GoodIn wsX10_lines (wsV RX10 127 RX10 yX10_asked_ wsX10_asked_) := goodIn_app (goodIn_of _ (by decide +kernel)) ggX10_lines_X10_asked_
set_option maxRecDepth 20000 in
theorem ggX10_lines_X10_gradeOf : GoodIn wsX10_lines wsX10_gradeOf := goodIn_r _ [16, 2, 17, 18, 19, 6, 20, 21, 22, 23, 24, 25, 26, 27, 28, 29, 30, 31, 32, 33, 34, 35, 36, 37, 38, 39, 40, 41, 42, 43, 44, 45, 46, 47, 48, 49, 50, 51, 52, 53, 54, 55, 56, 57, 58, 59, 60, 61, 62, 63, 64, 65, 66, 67, 68, 69, 70, 71, 72, 73, 74, 75, 76, 77, 4, 5, 7, 78, 79, 80, 81, 82, 83, 84, 85, 86, 87, 88, 89, 90, 91, 92, 93, 94, 95, 96, 97, 98, 99, 100, 101, 102, 103, 104, 105, 106, 107, 108, 109, 110, 111, 112, 113, 114, 115, 116, 117, 118, 119, 120, 121, 122, 123, 124, 125, 126, 127] (by decide +kernel) (by decide +kernel)
set_option maxRecDepth 20000 in
theorem gX10_lines_X10_gradeOf : GoodIn wsX10_lines (wsV RX10 225 RX10 yX10_gradeOf wsX10_gradeOf) := goodIn_app (goodIn_of _ (by decide +kernel)) ggX10_lines_X10_gradeOf
theorem dX10_lines_0 : decode cX10_lines 0 = .ok (.iload_n 1, 1) := by decide +kernel
theorem dX10_lines_1 : decode cX10_lines 1 = .ok (.iconst 0, 1) := by decide +kernel
theorem dX10_lines_2 : decode cX10_lines 2 = .ok (.sipush 999, 3) := by decide +kernel
theorem dX10_lines_5 : decode cX10_lines 5 = .ok (.invokestatic 120, 3) := by decide +kernel
theorem dX10_lines_8 : decode cX10_lines 8 = .ok (.ifCond .eq 25, 3) := by decide +kernel
theorem dX10_lines_11 : decode cX10_lines 11 = .ok (.iload_n 2, 1) := by decide +kernel
theorem dX10_lines_12 : decode cX10_lines 12 = .ok (.iconst 0, 1) := by decide +kernel
theorem dX10_lines_13 : decode cX10_lines 13 = .ok (.iload_n 1, 1) := by decide +kernel
theorem dX10_lines_14 : decode cX10_lines 14 = .ok (.invokestatic 120, 3) := by decide +kernel
theorem dX10_lines_17 : decode cX10_lines 17 = .ok (.ifCond .eq 16, 3) := by decide +kernel
theorem dX10_lines_20 : decode cX10_lines 20 = .ok (.iload_n 3, 1) := by decide +kernel
theorem dX10_lines_21 : decode cX10_lines 21 = .ok (.iconst 0, 1) := by decide +kernel
theorem dX10_lines_22 : decode cX10_lines 22 = .ok (.iload_n 2, 1) := by decide +kernel
theorem dX10_lines_23 : decode cX10_lines 23 = .ok (.invokestatic 120, 3) := by decide +kernel
theorem dX10_lines_26 : decode cX10_lines 26 = .ok (.ifCond .eq 7, 3) := by decide +kernel
theorem dX10_lines_29 : decode cX10_lines 29 = .ok (.iconst 1, 1) := by decide +kernel
theorem dX10_lines_30 : decode cX10_lines 30 = .ok (.goto 4, 3) := by decide +kernel
theorem dX10_lines_33 : decode cX10_lines 33 = .ok (.iconst 0, 1) := by decide +kernel
theorem dX10_lines_34 : decode cX10_lines 34 = .ok (.istore 4, 2) := by decide +kernel
theorem dX10_lines_36 : decode cX10_lines 36 = .ok (.aload_n 0, 1) := by decide +kernel
theorem dX10_lines_37 : decode cX10_lines 37 = .ok (.iload 4, 2) := by decide +kernel
theorem dX10_lines_39 : decode cX10_lines 39 = .ok (.aload_n 0, 1) := by decide +kernel
theorem dX10_lines_40 : decode cX10_lines 40 = .ok (.getfield 221, 3) := by decide +kernel
theorem dX10_lines_43 : decode cX10_lines 43 = .ok (.ifCond .ne 7, 3) := by decide +kernel
theorem dX10_lines_46 : decode cX10_lines 46 = .ok (.iconst 1, 1) := by decide +kernel
theorem dX10_lines_47 : decode cX10_lines 47 = .ok (.goto 4, 3) := by decide +kernel
theorem dX10_lines_50 : decode cX10_lines 50 = .ok (.iconst 0, 1) := by decide +kernel
theorem dX10_lines_51 : decode cX10_lines 51 = .ok (.invokevirtual 127, 3) := by decide +kernel
theorem dX10_lines_54 : decode cX10_lines 54 = .ok (.ifCond .ne 5, 3) := by decide +kernel
theorem dX10_lines_57 : decode cX10_lines 57 = .ok (.iconst 0, 1) := by decide +kernel
theorem dX10_lines_58 : decode cX10_lines 58 = .ok (.ireturn, 1) := by decide +kernel
theorem dX10_lines_59 : decode cX10_lines 59 = .ok (.aload_n 0, 1) := by decide +kernel
theorem dX10_lines_60 : decode cX10_lines 60 = .ok (.getfield 36, 3) := by decide +kernel
theorem dX10_lines_63 : decode cX10_lines 63 = .ok (.iconst 0, 1) := by decide +kernel
theorem dX10_lines_64 : decode cX10_lines 64 = .ok (.iload_n 1, 1) := by decide +kernel
theorem dX10_lines_65 : decode cX10_lines 65 = .ok (.iastore, 1) := by decide +kernel
theorem dX10_lines_66 : decode cX10_lines 66 = .ok (.aload_n 0, 1) := by decide +kernel
theorem dX10_lines_67 : decode cX10_lines 67 = .ok (.getfield 36, 3) := by decide +kernel
theorem dX10_lines_70 : decode cX10_lines 70 = .ok (.iconst 1, 1) := by decide +kernel
theorem dX10_lines_71 : decode cX10_lines 71 = .ok (.iload_n 2, 1) := by decide +kernel
theorem dX10_lines_72 : decode cX10_lines 72 = .ok (.iastore, 1) := by decide +kernel
theorem dX10_lines_73 : decode cX10_lines 73 = .ok (.aload_n 0, 1) := by decide +kernel
theorem dX10_lines_74 : decode cX10_lines 74 = .ok (.getfield 36, 3) := by decide +kernel
theorem dX10_lines_77 : decode cX10_lines 77 = .ok (.iconst 2, 1) := by decide +kernel
theorem dX10_lines_78 : decode cX10_lines 78 = .ok (.iload_n 3, 1) := by decide +kernel
theorem dX10_lines_79 : decode cX10_lines 79 = .ok (.iastore, 1) := by decide +kernel
theorem dX10_lines_80 : decode cX10_lines 80 = .ok (.iconst 0, 1) := by decide +kernel
theorem dX10_lines_81 : decode cX10_lines 81 = .ok (.istore 5, 2) := by decide +kernel
theorem dX10_lines_83 : decode cX10_lines 83 = .ok (.iconst 0, 1) := by decide +kernel
theorem dX10_lines_84 : decode cX10_lines 84 = .ok (.istore 6, 2) := by decide +kernel
theorem dX10_lines_86 : decode cX10_lines 86 = .ok (.iload 6, 2) := by decide +kernel
theorem dX10_lines_88 : decode cX10_lines 88 = .ok (.aload_n 0, 1) := by decide +kernel
theorem dX10_lines_89 : decode cX10_lines 89 = .ok (.getfield 117, 3) := by decide +kernel
theorem dX10_lines_92 : decode cX10_lines 92 = .ok (.if_icmp .ge 29, 3) := by decide +kernel
theorem dX10_lines_95 : decode cX10_lines 95 = .ok (.iload 5, 2) := by decide +kernel
theorem dX10_lines_97 : decode cX10_lines 97 = .ok (.aload_n 0, 1) := by decide +kernel
theorem dX10_lines_98 : decode cX10_lines 98 = .ok (.iload 6, 2) := by decide +kernel
theorem dX10_lines_100 : decode cX10_lines 100 = .ok (.invokevirtual 225, 3) := by decide +kernel
theorem dX10_lines_103 : decode cX10_lines 103 = .ok (.iconst 3, 1) := by decide +kernel
theorem dX10_lines_104 : decode cX10_lines 104 = .ok (.if_icmp .ne 7, 3) := by decide +kernel
theorem dX10_lines_107 : decode cX10_lines 107 = .ok (.iconst 1, 1) := by decide +kernel
theorem dX10_lines_108 : decode cX10_lines 108 = .ok (.goto 4, 3) := by decide +kernel
theorem dX10_lines_111 : decode cX10_lines 111 = .ok (.iconst 0, 1) := by decide +kernel
theorem dX10_lines_112 : decode cX10_lines 112 = .ok (.iadd, 1) := by decide +kernel
theorem dX10_lines_113 : decode cX10_lines 113 = .ok (.istore 5, 2) := by decide +kernel
theorem dX10_lines_115 : decode cX10_lines 115 = .ok (.iinc 6 1, 3) := by decide +kernel
theorem dX10_lines_118 : decode cX10_lines 118 = .ok (.goto (-32), 3) := by decide +kernel
theorem dX10_lines_121 : decode cX10_lines 121 = .ok (.iload 5, 2) := by decide +kernel
theorem dX10_lines_123 : decode cX10_lines 123 = .ok (.ireturn, 1) := by decide +kernel
set_option maxRecDepth 20000 in
theorem ggX10_release_X10_totalOf : GoodIn wsX10_release wsX10_totalOf := goodIn_r _ [8, 9, 10, 11, 12, 7, 13, 14, 15, 16, 17, 18, 19, 20, 21, 22, 23, 24, 25, 26, 27, 28, 29, 30, 31, 32, 33, 34, 35, 36, 37, 38, 39, 40, 41, 42, 43, 44, 45, 46, 47, 48, 49, 50, 51, 52, 53, 54, 55, 56, 57, 58, 59, 60, 61, 62, 63, 64, 65, 66, 67, 68, 69, 70, 71, 72, 73, 74, 75, 76, 77, 88, 89, 90, 91, 92, 93, 94, 95, 96, 97, 98, 99, 100, 101, 102, 103, 104, 105, 106, 107, 108, 109, 110, 111, 112, 113, 114, 115, 116, 117, 118, 119, 120, 121, 122, 123, 124, 125, 126, 127, 128] (by decide +kernel) (by decide +kernel)
set_option maxRecDepth 20000 in
theorem gX10_release_X10_totalOf : GoodIn wsX10_release (wsV RX10 218 RX10 yX10_totalOf wsX10_totalOf) := goodIn_app (goodIn_of _ (by decide +kernel)) ggX10_release_X10_totalOf
set_option maxRecDepth 20000 in
theorem ggX10_release_X10_asked : GoodIn wsX10_release wsX10_asked := goodIn_r _ [81, 82, 88, 89, 90, 91, 92, 93, 94, 95, 96, 97, 98, 99, 100, 101, 102, 103, 104, 105, 106, 107, 108, 109, 110, 111, 112, 113, 114, 115, 116, 117, 118, 119, 120, 121, 122, 123, 124, 125, 126, 127, 128] (by decide +kernel) (by decide +kernel)
set_option maxRecDepth 20000 in
theorem gX10_release_X10_asked : GoodIn wsX10_release (wsV RX10 145 RX10 yX10_asked wsX10_asked) := goodIn_app (goodIn_of _ (by decide +kernel)) ggX10_release_X10_asked
set_option maxRecDepth 20000 in
theorem ggX10_release_X10_gradeOf : GoodIn wsX10_release wsX10_gradeOf := goodIn_r _ [86, 87, 4, 5, 6, 7, 8, 9, 10, 11, 12, 13, 14, 15, 16, 17, 18, 19, 20, 21, 22, 23, 24, 25, 26, 27, 28, 29, 30, 31, 32, 33, 34, 35, 36, 37, 38, 39, 40, 41, 42, 43, 44, 45, 46, 47, 48, 49, 50, 51, 52, 53, 54, 55, 56, 57, 58, 59, 60, 61, 62, 63, 64, 65, 66, 67, 68, 69, 70, 71, 72, 73, 74, 75, 76, 77, 88, 89, 90, 91, 92, 93, 94, 95, 96, 97, 98, 99, 100, 101, 102, 103, 104, 105, 106, 107, 108, 109, 110, 111, 112, 113, 114, 115, 116, 117, 118, 119, 120, 121, 122, 123, 124, 125, 126, 127, 128] (by decide +kernel) (by decide +kernel)
set_option maxRecDepth 20000 in
theorem gX10_release_X10_gradeOf : GoodIn wsX10_release (wsV RX10 225 RX10 yX10_gradeOf wsX10_gradeOf) := goodIn_app (goodIn_of _ (by decide +kernel)) ggX10_release_X10_gradeOf
theorem dX10_release_0 : decode cX10_release 0 = .ok (.aload_n 0, 1) := by decide +kernel
theorem dX10_release_1 : decode cX10_release 1 = .ok (.getfield 221, 3) := by decide +kernel
theorem dX10_release_4 : decode cX10_release 4 = .ok (.ifCond .ne 14, 3) := by decide +kernel
theorem dX10_release_7 : decode cX10_release 7 = .ok (.aload_n 0, 1) := by decide +kernel
theorem dX10_release_8 : decode cX10_release 8 = .ok (.getfield 117, 3) := by decide +kernel
theorem dX10_release_11 : decode cX10_release 11 = .ok (.ifCond .le 7, 3) := by decide +kernel
theorem dX10_release_14 : decode cX10_release 14 = .ok (.iconst 1, 1) := by decide +kernel
theorem dX10_release_15 : decode cX10_release 15 = .ok (.goto 4, 3) := by decide +kernel
theorem dX10_release_18 : decode cX10_release 18 = .ok (.iconst 0, 1) := by decide +kernel
theorem dX10_release_19 : decode cX10_release 19 = .ok (.istore_n 1, 1) := by decide +kernel
theorem dX10_release_20 : decode cX10_release 20 = .ok (.iconst 0, 1) := by decide +kernel
theorem dX10_release_21 : decode cX10_release 21 = .ok (.istore_n 2, 1) := by decide +kernel
theorem dX10_release_22 : decode cX10_release 22 = .ok (.iload_n 2, 1) := by decide +kernel
theorem dX10_release_23 : decode cX10_release 23 = .ok (.aload_n 0, 1) := by decide +kernel
theorem dX10_release_24 : decode cX10_release 24 = .ok (.getfield 117, 3) := by decide +kernel
theorem dX10_release_27 : decode cX10_release 27 = .ok (.if_icmp .ge 28, 3) := by decide +kernel
theorem dX10_release_30 : decode cX10_release 30 = .ok (.iload_n 1, 1) := by decide +kernel
theorem dX10_release_31 : decode cX10_release 31 = .ok (.ifCond .eq 24, 3) := by decide +kernel
theorem dX10_release_34 : decode cX10_release 34 = .ok (.aload_n 0, 1) := by decide +kernel
theorem dX10_release_35 : decode cX10_release 35 = .ok (.iload_n 2, 1) := by decide +kernel
theorem dX10_release_36 : decode cX10_release 36 = .ok (.invokevirtual 218, 3) := by decide +kernel
theorem dX10_release_39 : decode cX10_release 39 = .ok (.iconst (-1), 1) := by decide +kernel
theorem dX10_release_40 : decode cX10_release 40 = .ok (.if_icmp .eq 7, 3) := by decide +kernel
theorem dX10_release_43 : decode cX10_release 43 = .ok (.iconst 1, 1) := by decide +kernel
theorem dX10_release_44 : decode cX10_release 44 = .ok (.goto 4, 3) := by decide +kernel
theorem dX10_release_47 : decode cX10_release 47 = .ok (.iconst 0, 1) := by decide +kernel
theorem dX10_release_48 : decode cX10_release 48 = .ok (.istore_n 1, 1) := by decide +kernel
theorem dX10_release_49 : decode cX10_release 49 = .ok (.iinc 2 1, 3) := by decide +kernel
theorem dX10_release_52 : decode cX10_release 52 = .ok (.goto (-30), 3) := by decide +kernel
theorem dX10_release_55 : decode cX10_release 55 = .ok (.aload_n 0, 1) := by decide +kernel
theorem dX10_release_56 : decode cX10_release 56 = .ok (.iload_n 1, 1) := by decide +kernel
theorem dX10_release_57 : decode cX10_release 57 = .ok (.invokevirtual 145, 3) := by decide +kernel
theorem dX10_release_60 : decode cX10_release 60 = .ok (.ifCond .ne 5, 3) := by decide +kernel
theorem dX10_release_63 : decode cX10_release 63 = .ok (.iconst 0, 1) := by decide +kernel
theorem dX10_release_64 : decode cX10_release 64 = .ok (.ireturn, 1) := by decide +kernel
theorem dX10_release_65 : decode cX10_release 65 = .ok (.aload_n 0, 1) := by decide +kernel
theorem dX10_release_66 : decode cX10_release 66 = .ok (.iconst 1, 1) := by decide +kernel
theorem dX10_release_67 : decode cX10_release 67 = .ok (.putfield 221, 3) := by decide +kernel
theorem dX10_release_70 : decode cX10_release 70 = .ok (.iconst 0, 1) := by decide +kernel
theorem dX10_release_71 : decode cX10_release 71 = .ok (.istore_n 2, 1) := by decide +kernel
theorem dX10_release_72 : decode cX10_release 72 = .ok (.iconst 0, 1) := by decide +kernel
theorem dX10_release_73 : decode cX10_release 73 = .ok (.istore_n 3, 1) := by decide +kernel
theorem dX10_release_74 : decode cX10_release 74 = .ok (.iload_n 3, 1) := by decide +kernel
theorem dX10_release_75 : decode cX10_release 75 = .ok (.aload_n 0, 1) := by decide +kernel
theorem dX10_release_76 : decode cX10_release 76 = .ok (.getfield 117, 3) := by decide +kernel
theorem dX10_release_79 : decode cX10_release 79 = .ok (.if_icmp .ge 37, 3) := by decide +kernel
theorem dX10_release_82 : decode cX10_release 82 = .ok (.aload_n 0, 1) := by decide +kernel
theorem dX10_release_83 : decode cX10_release 83 = .ok (.getfield 33, 3) := by decide +kernel
theorem dX10_release_86 : decode cX10_release 86 = .ok (.iload_n 3, 1) := by decide +kernel
theorem dX10_release_87 : decode cX10_release 87 = .ok (.aload_n 0, 1) := by decide +kernel
theorem dX10_release_88 : decode cX10_release 88 = .ok (.iload_n 3, 1) := by decide +kernel
theorem dX10_release_89 : decode cX10_release 89 = .ok (.invokevirtual 225, 3) := by decide +kernel
theorem dX10_release_92 : decode cX10_release 92 = .ok (.iastore, 1) := by decide +kernel
theorem dX10_release_93 : decode cX10_release 93 = .ok (.iload_n 2, 1) := by decide +kernel
theorem dX10_release_94 : decode cX10_release 94 = .ok (.aload_n 0, 1) := by decide +kernel
theorem dX10_release_95 : decode cX10_release 95 = .ok (.getfield 33, 3) := by decide +kernel
theorem dX10_release_98 : decode cX10_release 98 = .ok (.iload_n 3, 1) := by decide +kernel
theorem dX10_release_99 : decode cX10_release 99 = .ok (.iaload, 1) := by decide +kernel
theorem dX10_release_100 : decode cX10_release 100 = .ok (.ifCond .le 7, 3) := by decide +kernel
theorem dX10_release_103 : decode cX10_release 103 = .ok (.iconst 1, 1) := by decide +kernel
theorem dX10_release_104 : decode cX10_release 104 = .ok (.goto 4, 3) := by decide +kernel
theorem dX10_release_107 : decode cX10_release 107 = .ok (.iconst 0, 1) := by decide +kernel
theorem dX10_release_108 : decode cX10_release 108 = .ok (.iadd, 1) := by decide +kernel
theorem dX10_release_109 : decode cX10_release 109 = .ok (.istore_n 2, 1) := by decide +kernel
theorem dX10_release_110 : decode cX10_release 110 = .ok (.iinc 3 1, 3) := by decide +kernel
theorem dX10_release_113 : decode cX10_release 113 = .ok (.goto (-39), 3) := by decide +kernel
theorem dX10_release_116 : decode cX10_release 116 = .ok (.iload_n 2, 1) := by decide +kernel
theorem dX10_release_117 : decode cX10_release 117 = .ok (.ireturn, 1) := by decide +kernel
set_option maxRecDepth 20000 in
theorem ggX10_appeal_X10_isPupil : GoodIn wsX10_appeal wsX10_isPupil := goodIn_r _ [7, 8, 9, 10, 6, 11, 84, 85, 86, 87, 88, 89, 90, 91, 92, 93, 94, 95, 96, 97, 98, 99, 100, 101, 102, 103, 104, 105, 106, 107, 108, 109, 110, 111, 112, 113, 114, 115, 116, 117, 118, 119, 120, 121, 122, 123, 124] (by decide +kernel) (by decide +kernel)
set_option maxRecDepth 20000 in
theorem gX10_appeal_X10_isPupil : GoodIn wsX10_appeal (wsV RX10 131 RX10 yX10_isPupil wsX10_isPupil) := goodIn_app (goodIn_of _ (by decide +kernel)) ggX10_appeal_X10_isPupil
set_option maxRecDepth 20000 in
theorem ggX10_appeal_X10_isQuestion : GoodIn wsX10_appeal wsX10_isQuestion := goodIn_r _ [14, 9, 10, 6, 11] (by decide +kernel) (by decide +kernel)
set_option maxRecDepth 20000 in
theorem gX10_appeal_X10_isQuestion : GoodIn wsX10_appeal (va_wsS RX10 138 yX10_isQuestion wsX10_isQuestion) := goodIn_app (goodIn_of _ (by decide +kernel)) ggX10_appeal_X10_isQuestion
set_option maxRecDepth 20000 in
theorem ggX10_appeal_X10_hasAnswer : GoodIn wsX10_appeal wsX10_hasAnswer := goodIn_r _ [18, 19, 84, 85, 86, 87, 88, 89, 90, 91, 92, 93, 94, 95, 96, 97, 98, 99, 100, 101, 102, 103, 104, 105, 106, 107, 108, 109, 110, 111, 112, 113, 114, 115, 116, 117, 118, 119, 120, 121, 122, 123, 124] (by decide +kernel) (by decide +kernel)
set_option maxRecDepth 20000 in
theorem gX10_appeal_X10_hasAnswer : GoodIn wsX10_appeal (wsV RX10 184 RX10 yX10_hasAnswer wsX10_hasAnswer) := goodIn_app (goodIn_of _ (by decide +kernel)) ggX10_appeal_X10_hasAnswer
set_option maxRecDepth 20000 in
theorem ggX10_appeal_X10_marked : GoodIn wsX10_appeal wsX10_marked := goodIn_r _ [23, 2, 24, 25, 26, 27, 6, 28, 29, 15, 16, 17, 18, 19, 30, 31, 32, 33, 34, 35, 36, 37, 38, 39, 40, 41, 42, 43, 44, 45, 46, 47, 48, 49, 50, 51, 52, 53, 54, 55, 56, 57, 58, 59, 60, 61, 62, 63, 64, 65, 66, 67, 68, 69, 9, 10, 11, 70, 71, 72, 73, 74, 75, 76, 77, 78, 84, 85, 86, 87, 88, 89, 90, 91, 92, 93, 94, 95, 96, 97, 98, 99, 100, 101, 102, 103, 104, 105, 106, 107, 108, 109, 110, 111, 112, 113, 114, 115, 116, 117, 118, 119, 120, 121, 122, 123, 124] (by decide +kernel) (by decide +kernel)
set_option maxRecDepth 20000 in
theorem gX10_appeal_X10_marked : GoodIn wsX10_appeal (wsV RX10 215 RX10 yX10_marked wsX10_marked) := goodIn_app (goodIn_of _ (by decide +kernel)) ggX10_appeal_X10_marked
set_option maxRecDepth 20000 in
theorem ggX10_appeal_X10_asked_ : GoodIn wsX10_appeal wsX10_asked_ := goodIn_r _ [82, 83, 84, 85, 86, 87, 88, 89, 90, 91, 92, 93, 94, 95, 96, 97, 98, 99, 100, 101, 102, 103, 104, 105, 106, 107, 108, 109, 110, 111, 112, 113, 114, 115, 116, 117, 118, 119, 120, 121, 122, 123, 124] (by decide +kernel) (by decide +kernel)
set_option maxRecDepth 20000 in
theorem gX10_appeal_X10_asked_ : GoodIn wsX10_appeal (wsV RX10 127 RX10 yX10_asked_ wsX10_asked_) := goodIn_app (goodIn_of _ (by decide +kernel)) ggX10_appeal_X10_asked_
theorem dX10_appeal_0 : decode cX10_appeal 0 = .ok (.aload_n 0, 1) := by decide +kernel
theorem dX10_appeal_1 : decode cX10_appeal 1 = .ok (.iload_n 1, 1) := by decide +kernel
theorem dX10_appeal_2 : decode cX10_appeal 2 = .ok (.invokevirtual 131, 3) := by decide +kernel
theorem dX10_appeal_5 : decode cX10_appeal 5 = .ok (.ifCond .eq 14, 3) := by decide +kernel
theorem dX10_appeal_8 : decode cX10_appeal 8 = .ok (.iload_n 2, 1) := by decide +kernel
theorem dX10_appeal_9 : decode cX10_appeal 9 = .ok (.invokestatic 138, 3) := by decide +kernel
theorem dX10_appeal_12 : decode cX10_appeal 12 = .ok (.ifCond .eq 7, 3) := by decide +kernel
theorem dX10_appeal_15 : decode cX10_appeal 15 = .ok (.iconst 1, 1) := by decide +kernel
theorem dX10_appeal_16 : decode cX10_appeal 16 = .ok (.goto 4, 3) := by decide +kernel
theorem dX10_appeal_19 : decode cX10_appeal 19 = .ok (.iconst 0, 1) := by decide +kernel
theorem dX10_appeal_20 : decode cX10_appeal 20 = .ok (.istore_n 3, 1) := by decide +kernel
theorem dX10_appeal_21 : decode cX10_appeal 21 = .ok (.iload_n 3, 1) := by decide +kernel
theorem dX10_appeal_22 : decode cX10_appeal 22 = .ok (.ifCond .eq 11, 3) := by decide +kernel
theorem dX10_appeal_25 : decode cX10_appeal 25 = .ok (.iconst 4, 1) := by decide +kernel
theorem dX10_appeal_26 : decode cX10_appeal 26 = .ok (.iload_n 1, 1) := by decide +kernel
theorem dX10_appeal_27 : decode cX10_appeal 27 = .ok (.imul, 1) := by decide +kernel
theorem dX10_appeal_28 : decode cX10_appeal 28 = .ok (.iload_n 2, 1) := by decide +kernel
theorem dX10_appeal_29 : decode cX10_appeal 29 = .ok (.iadd, 1) := by decide +kernel
theorem dX10_appeal_30 : decode cX10_appeal 30 = .ok (.goto 4, 3) := by decide +kernel
theorem dX10_appeal_33 : decode cX10_appeal 33 = .ok (.iconst 0, 1) := by decide +kernel
theorem dX10_appeal_34 : decode cX10_appeal 34 = .ok (.istore 4, 2) := by decide +kernel
theorem dX10_appeal_36 : decode cX10_appeal 36 = .ok (.aload_n 0, 1) := by decide +kernel
theorem dX10_appeal_37 : decode cX10_appeal 37 = .ok (.iload_n 3, 1) := by decide +kernel
theorem dX10_appeal_38 : decode cX10_appeal 38 = .ok (.iload_n 3, 1) := by decide +kernel
theorem dX10_appeal_39 : decode cX10_appeal 39 = .ok (.ifCond .eq 43, 3) := by decide +kernel
theorem dX10_appeal_42 : decode cX10_appeal 42 = .ok (.aload_n 0, 1) := by decide +kernel
theorem dX10_appeal_43 : decode cX10_appeal 43 = .ok (.getfield 221, 3) := by decide +kernel
theorem dX10_appeal_46 : decode cX10_appeal 46 = .ok (.ifCond .eq 36, 3) := by decide +kernel
theorem dX10_appeal_49 : decode cX10_appeal 49 = .ok (.aload_n 0, 1) := by decide +kernel
theorem dX10_appeal_50 : decode cX10_appeal 50 = .ok (.iload 4, 2) := by decide +kernel
theorem dX10_appeal_52 : decode cX10_appeal 52 = .ok (.invokevirtual 184, 3) := by decide +kernel
theorem dX10_appeal_55 : decode cX10_appeal 55 = .ok (.ifCond .eq 27, 3) := by decide +kernel
theorem dX10_appeal_58 : decode cX10_appeal 58 = .ok (.aload_n 0, 1) := by decide +kernel
theorem dX10_appeal_59 : decode cX10_appeal 59 = .ok (.getfield 30, 3) := by decide +kernel
theorem dX10_appeal_62 : decode cX10_appeal 62 = .ok (.iload 4, 2) := by decide +kernel
theorem dX10_appeal_64 : decode cX10_appeal 64 = .ok (.baload, 1) := by decide +kernel
theorem dX10_appeal_65 : decode cX10_appeal 65 = .ok (.ifCond .ne 17, 3) := by decide +kernel
theorem dX10_appeal_68 : decode cX10_appeal 68 = .ok (.aload_n 0, 1) := by decide +kernel
theorem dX10_appeal_69 : decode cX10_appeal 69 = .ok (.iload 4, 2) := by decide +kernel
theorem dX10_appeal_71 : decode cX10_appeal 71 = .ok (.invokevirtual 215, 3) := by decide +kernel
theorem dX10_appeal_74 : decode cX10_appeal 74 = .ok (.iconst (-1), 1) := by decide +kernel
theorem dX10_appeal_75 : decode cX10_appeal 75 = .ok (.if_icmp .eq 7, 3) := by decide +kernel
theorem dX10_appeal_78 : decode cX10_appeal 78 = .ok (.iconst 1, 1) := by decide +kernel
theorem dX10_appeal_79 : decode cX10_appeal 79 = .ok (.goto 4, 3) := by decide +kernel
theorem dX10_appeal_82 : decode cX10_appeal 82 = .ok (.iconst 0, 1) := by decide +kernel
theorem dX10_appeal_83 : decode cX10_appeal 83 = .ok (.invokevirtual 127, 3) := by decide +kernel
theorem dX10_appeal_86 : decode cX10_appeal 86 = .ok (.ifCond .ne 5, 3) := by decide +kernel
theorem dX10_appeal_89 : decode cX10_appeal 89 = .ok (.iconst 0, 1) := by decide +kernel
theorem dX10_appeal_90 : decode cX10_appeal 90 = .ok (.ireturn, 1) := by decide +kernel
theorem dX10_appeal_91 : decode cX10_appeal 91 = .ok (.aload_n 0, 1) := by decide +kernel
theorem dX10_appeal_92 : decode cX10_appeal 92 = .ok (.iload 4, 2) := by decide +kernel
theorem dX10_appeal_94 : decode cX10_appeal 94 = .ok (.invokevirtual 215, 3) := by decide +kernel
theorem dX10_appeal_97 : decode cX10_appeal 97 = .ok (.istore 5, 2) := by decide +kernel
theorem dX10_appeal_99 : decode cX10_appeal 99 = .ok (.aload_n 0, 1) := by decide +kernel
theorem dX10_appeal_100 : decode cX10_appeal 100 = .ok (.getfield 30, 3) := by decide +kernel
theorem dX10_appeal_103 : decode cX10_appeal 103 = .ok (.iload 4, 2) := by decide +kernel
theorem dX10_appeal_105 : decode cX10_appeal 105 = .ok (.iconst 1, 1) := by decide +kernel
theorem dX10_appeal_106 : decode cX10_appeal 106 = .ok (.bastore, 1) := by decide +kernel
theorem dX10_appeal_107 : decode cX10_appeal 107 = .ok (.iload 5, 2) := by decide +kernel
theorem dX10_appeal_109 : decode cX10_appeal 109 = .ok (.ireturn, 1) := by decide +kernel
set_option maxRecDepth 20000 in
theorem ggX10_versions_X10_isQuestion : GoodIn wsX10_versions wsX10_isQuestion := goodIn_r _ [5, 6, 7, 4, 8] (by decide +kernel) (by decide +kernel)
set_option maxRecDepth 20000 in
theorem gX10_versions_X10_isQuestion : GoodIn wsX10_versions (va_wsS RX10 138 yX10_isQuestion wsX10_isQuestion) := goodIn_app (goodIn_of _ (by decide +kernel)) ggX10_versions_X10_isQuestion
set_option maxRecDepth 20000 in
theorem ggX10_versions_X10_asked : GoodIn wsX10_versions wsX10_asked := goodIn_r _ [12, 13, 14, 15, 16, 17, 18, 19, 20, 21, 22, 23, 24, 25, 26, 27, 28, 29, 30, 31, 32, 33, 34, 35, 36, 37, 38, 39, 40, 41, 42, 43, 44, 45, 46, 47, 48, 49, 50, 51, 52, 53, 54] (by decide +kernel) (by decide +kernel)
set_option maxRecDepth 20000 in
theorem gX10_versions_X10_asked : GoodIn wsX10_versions (wsV RX10 145 RX10 yX10_asked wsX10_asked) := goodIn_app (goodIn_of _ (by decide +kernel)) ggX10_versions_X10_asked
theorem dX10_versions_0 : decode cX10_versions 0 = .ok (.aload_n 0, 1) := by decide +kernel
theorem dX10_versions_1 : decode cX10_versions 1 = .ok (.iload_n 1, 1) := by decide +kernel
theorem dX10_versions_2 : decode cX10_versions 2 = .ok (.invokestatic 138, 3) := by decide +kernel
theorem dX10_versions_5 : decode cX10_versions 5 = .ok (.invokevirtual 145, 3) := by decide +kernel
theorem dX10_versions_8 : decode cX10_versions 8 = .ok (.ifCond .eq 12, 3) := by decide +kernel
theorem dX10_versions_11 : decode cX10_versions 11 = .ok (.aload_n 0, 1) := by decide +kernel
theorem dX10_versions_12 : decode cX10_versions 12 = .ok (.getfield 39, 3) := by decide +kernel
theorem dX10_versions_15 : decode cX10_versions 15 = .ok (.iload_n 1, 1) := by decide +kernel
theorem dX10_versions_16 : decode cX10_versions 16 = .ok (.iaload, 1) := by decide +kernel
theorem dX10_versions_17 : decode cX10_versions 17 = .ok (.goto 4, 3) := by decide +kernel
theorem dX10_versions_20 : decode cX10_versions 20 = .ok (.iconst 0, 1) := by decide +kernel
theorem dX10_versions_21 : decode cX10_versions 21 = .ok (.ireturn, 1) := by decide +kernel
set_option maxRecDepth 20000 in
theorem ggX10_markOf_X10_isQuestion : GoodIn wsX10_markOf wsX10_isQuestion := goodIn_r _ [5, 6, 7, 4, 8] (by decide +kernel) (by decide +kernel)
set_option maxRecDepth 20000 in
theorem gX10_markOf_X10_isQuestion : GoodIn wsX10_markOf (va_wsS RX10 138 yX10_isQuestion wsX10_isQuestion) := goodIn_app (goodIn_of _ (by decide +kernel)) ggX10_markOf_X10_isQuestion
set_option maxRecDepth 20000 in
theorem ggX10_markOf_X10_in : GoodIn wsX10_markOf wsX10_in := goodIn_r _ [8] (by decide +kernel) (by decide +kernel)
set_option maxRecDepth 20000 in
theorem gX10_markOf_X10_in : GoodIn wsX10_markOf (va_wsS RX10 120 yX10_in wsX10_in) := goodIn_app (goodIn_of _ (by decide +kernel)) ggX10_markOf_X10_in
set_option maxRecDepth 20000 in
theorem ggX10_markOf_X10_asked_ : GoodIn wsX10_markOf wsX10_asked_ := goodIn_r _ [12, 13, 22, 23, 24, 25, 26, 27, 28, 29, 30, 31, 32, 33, 34, 35, 36, 37, 38, 39, 40, 41, 42, 43, 44, 45, 46, 47, 48, 49, 50, 51, 52, 53, 54, 55, 56, 57, 58, 59, 60, 61, 62] (by decide +kernel) (by decide +kernel)
set_option maxRecDepth 20000 in
theorem gX10_markOf_X10_asked_ : GoodIn wsX10_markOf (wsV RX10 127 RX10 yX10_asked_ wsX10_asked_) := goodIn_app (goodIn_of _ (by decide +kernel)) ggX10_markOf_X10_asked_
set_option maxRecDepth 20000 in
theorem ggX10_markOf_X10_value : GoodIn wsX10_markOf wsX10_value := goodIn_r _ [17, 18, 19, 20, 21, 6, 7, 4, 8, 22, 23, 24, 25, 26, 27, 28, 29, 30, 31, 32, 33, 34, 35, 36, 37, 38, 39, 40, 41, 42, 43, 44, 45, 46, 47, 48, 49, 50, 51, 52, 53, 54, 55, 56, 57, 58, 59, 60, 61, 62] (by decide +kernel) (by decide +kernel)
set_option maxRecDepth 20000 in
theorem gX10_markOf_X10_value : GoodIn wsX10_markOf (wsV RX10 164 RX10 yX10_value wsX10_value) := goodIn_app (goodIn_of _ (by decide +kernel)) ggX10_markOf_X10_value
theorem dX10_markOf_0 : decode cX10_markOf 0 = .ok (.iload_n 1, 1) := by decide +kernel
theorem dX10_markOf_1 : decode cX10_markOf 1 = .ok (.invokestatic 138, 3) := by decide +kernel
theorem dX10_markOf_4 : decode cX10_markOf 4 = .ok (.ifCond .eq 23, 3) := by decide +kernel
theorem dX10_markOf_7 : decode cX10_markOf 7 = .ok (.iload_n 2, 1) := by decide +kernel
theorem dX10_markOf_8 : decode cX10_markOf 8 = .ok (.iconst 0, 1) := by decide +kernel
theorem dX10_markOf_9 : decode cX10_markOf 9 = .ok (.aload_n 0, 1) := by decide +kernel
theorem dX10_markOf_10 : decode cX10_markOf 10 = .ok (.getfield 39, 3) := by decide +kernel
theorem dX10_markOf_13 : decode cX10_markOf 13 = .ok (.iload_n 1, 1) := by decide +kernel
theorem dX10_markOf_14 : decode cX10_markOf 14 = .ok (.iaload, 1) := by decide +kernel
theorem dX10_markOf_15 : decode cX10_markOf 15 = .ok (.iconst 1, 1) := by decide +kernel
theorem dX10_markOf_16 : decode cX10_markOf 16 = .ok (.isub, 1) := by decide +kernel
theorem dX10_markOf_17 : decode cX10_markOf 17 = .ok (.invokestatic 120, 3) := by decide +kernel
theorem dX10_markOf_20 : decode cX10_markOf 20 = .ok (.ifCond .eq 7, 3) := by decide +kernel
theorem dX10_markOf_23 : decode cX10_markOf 23 = .ok (.iconst 1, 1) := by decide +kernel
theorem dX10_markOf_24 : decode cX10_markOf 24 = .ok (.goto 4, 3) := by decide +kernel
theorem dX10_markOf_27 : decode cX10_markOf 27 = .ok (.iconst 0, 1) := by decide +kernel
theorem dX10_markOf_28 : decode cX10_markOf 28 = .ok (.istore 4, 2) := by decide +kernel
theorem dX10_markOf_30 : decode cX10_markOf 30 = .ok (.aload_n 0, 1) := by decide +kernel
theorem dX10_markOf_31 : decode cX10_markOf 31 = .ok (.iload 4, 2) := by decide +kernel
theorem dX10_markOf_33 : decode cX10_markOf 33 = .ok (.iload_n 3, 1) := by decide +kernel
theorem dX10_markOf_34 : decode cX10_markOf 34 = .ok (.iconst 0, 1) := by decide +kernel
theorem dX10_markOf_35 : decode cX10_markOf 35 = .ok (.sipush 255, 3) := by decide +kernel
theorem dX10_markOf_38 : decode cX10_markOf 38 = .ok (.invokestatic 120, 3) := by decide +kernel
theorem dX10_markOf_41 : decode cX10_markOf 41 = .ok (.invokevirtual 127, 3) := by decide +kernel
theorem dX10_markOf_44 : decode cX10_markOf 44 = .ok (.ifCond .eq 17, 3) := by decide +kernel
theorem dX10_markOf_47 : decode cX10_markOf 47 = .ok (.aload_n 0, 1) := by decide +kernel
theorem dX10_markOf_48 : decode cX10_markOf 48 = .ok (.bipush 6, 2) := by decide +kernel
theorem dX10_markOf_50 : decode cX10_markOf 50 = .ok (.iload_n 1, 1) := by decide +kernel
theorem dX10_markOf_51 : decode cX10_markOf 51 = .ok (.imul, 1) := by decide +kernel
theorem dX10_markOf_52 : decode cX10_markOf 52 = .ok (.iload_n 2, 1) := by decide +kernel
theorem dX10_markOf_53 : decode cX10_markOf 53 = .ok (.iadd, 1) := by decide +kernel
theorem dX10_markOf_54 : decode cX10_markOf 54 = .ok (.iload_n 3, 1) := by decide +kernel
theorem dX10_markOf_55 : decode cX10_markOf 55 = .ok (.invokevirtual 164, 3) := by decide +kernel
theorem dX10_markOf_58 : decode cX10_markOf 58 = .ok (.goto 4, 3) := by decide +kernel
theorem dX10_markOf_61 : decode cX10_markOf 61 = .ok (.iconst 0, 1) := by decide +kernel
theorem dX10_markOf_62 : decode cX10_markOf 62 = .ok (.ireturn, 1) := by decide +kernel
set_option maxRecDepth 20000 in
theorem ggX10_written_X10_isQuestion : GoodIn wsX10_written wsX10_isQuestion := goodIn_r _ [6, 7, 8, 5, 9] (by decide +kernel) (by decide +kernel)
set_option maxRecDepth 20000 in
theorem gX10_written_X10_isQuestion : GoodIn wsX10_written (va_wsS RX10 138 yX10_isQuestion wsX10_isQuestion) := goodIn_app (goodIn_of _ (by decide +kernel)) ggX10_written_X10_isQuestion
set_option maxRecDepth 20000 in
theorem ggX10_written_X10_in : GoodIn wsX10_written wsX10_in := goodIn_r _ [9] (by decide +kernel) (by decide +kernel)
set_option maxRecDepth 20000 in
theorem gX10_written_X10_in : GoodIn wsX10_written (va_wsS RX10 120 yX10_in wsX10_in) := goodIn_app (goodIn_of _ (by decide +kernel)) ggX10_written_X10_in
set_option maxRecDepth 20000 in
theorem ggX10_written_X10_asked : GoodIn wsX10_written wsX10_asked := goodIn_r _ [13, 14, 15, 16, 17, 18, 19, 20, 21, 22, 23, 24, 25, 26, 27, 28, 29, 30, 31, 32, 33, 34, 35, 36, 37, 38, 39, 40, 41, 42, 43, 44, 45, 46, 47, 48, 49, 50, 51, 52, 53, 54, 55] (by decide +kernel) (by decide +kernel)
set_option maxRecDepth 20000 in
theorem gX10_written_X10_asked : GoodIn wsX10_written (wsV RX10 145 RX10 yX10_asked wsX10_asked) := goodIn_app (goodIn_of _ (by decide +kernel)) ggX10_written_X10_asked
theorem dX10_written_0 : decode cX10_written 0 = .ok (.aload_n 0, 1) := by decide +kernel
theorem dX10_written_1 : decode cX10_written 1 = .ok (.iload_n 1, 1) := by decide +kernel
theorem dX10_written_2 : decode cX10_written 2 = .ok (.invokestatic 138, 3) := by decide +kernel
theorem dX10_written_5 : decode cX10_written 5 = .ok (.ifCond .eq 27, 3) := by decide +kernel
theorem dX10_written_8 : decode cX10_written 8 = .ok (.iload_n 2, 1) := by decide +kernel
theorem dX10_written_9 : decode cX10_written 9 = .ok (.iconst 0, 1) := by decide +kernel
theorem dX10_written_10 : decode cX10_written 10 = .ok (.aload_n 0, 1) := by decide +kernel
theorem dX10_written_11 : decode cX10_written 11 = .ok (.getfield 39, 3) := by decide +kernel
theorem dX10_written_14 : decode cX10_written 14 = .ok (.iload_n 1, 1) := by decide +kernel
theorem dX10_written_15 : decode cX10_written 15 = .ok (.iaload, 1) := by decide +kernel
theorem dX10_written_16 : decode cX10_written 16 = .ok (.iconst 1, 1) := by decide +kernel
theorem dX10_written_17 : decode cX10_written 17 = .ok (.isub, 1) := by decide +kernel
theorem dX10_written_18 : decode cX10_written 18 = .ok (.invokestatic 120, 3) := by decide +kernel
theorem dX10_written_21 : decode cX10_written 21 = .ok (.ifCond .eq 11, 3) := by decide +kernel
theorem dX10_written_24 : decode cX10_written 24 = .ok (.iload_n 3, 1) := by decide +kernel
theorem dX10_written_25 : decode cX10_written 25 = .ok (.ifCond .lt 7, 3) := by decide +kernel
theorem dX10_written_28 : decode cX10_written 28 = .ok (.iconst 1, 1) := by decide +kernel
theorem dX10_written_29 : decode cX10_written 29 = .ok (.goto 4, 3) := by decide +kernel
theorem dX10_written_32 : decode cX10_written 32 = .ok (.iconst 0, 1) := by decide +kernel
theorem dX10_written_33 : decode cX10_written 33 = .ok (.invokevirtual 145, 3) := by decide +kernel
theorem dX10_written_36 : decode cX10_written 36 = .ok (.ifCond .ne 5, 3) := by decide +kernel
theorem dX10_written_39 : decode cX10_written 39 = .ok (.iconst 0, 1) := by decide +kernel
theorem dX10_written_40 : decode cX10_written 40 = .ok (.ireturn, 1) := by decide +kernel
theorem dX10_written_41 : decode cX10_written 41 = .ok (.iload_n 3, 1) := by decide +kernel
theorem dX10_written_42 : decode cX10_written 42 = .ok (.bipush 90, 2) := by decide +kernel
theorem dX10_written_44 : decode cX10_written 44 = .ok (.if_icmp .ge 23, 3) := by decide +kernel
theorem dX10_written_47 : decode cX10_written 47 = .ok (.aload_n 0, 1) := by decide +kernel
theorem dX10_written_48 : decode cX10_written 48 = .ok (.getfield 42, 3) := by decide +kernel
theorem dX10_written_51 : decode cX10_written 51 = .ok (.bipush 90, 2) := by decide +kernel
theorem dX10_written_53 : decode cX10_written 53 = .ok (.bipush 6, 2) := by decide +kernel
theorem dX10_written_55 : decode cX10_written 55 = .ok (.iload_n 1, 1) := by decide +kernel
theorem dX10_written_56 : decode cX10_written 56 = .ok (.imul, 1) := by decide +kernel
theorem dX10_written_57 : decode cX10_written 57 = .ok (.iload_n 2, 1) := by decide +kernel
theorem dX10_written_58 : decode cX10_written 58 = .ok (.iadd, 1) := by decide +kernel
theorem dX10_written_59 : decode cX10_written 59 = .ok (.imul, 1) := by decide +kernel
theorem dX10_written_60 : decode cX10_written 60 = .ok (.iload_n 3, 1) := by decide +kernel
theorem dX10_written_61 : decode cX10_written 61 = .ok (.iadd, 1) := by decide +kernel
theorem dX10_written_62 : decode cX10_written 62 = .ok (.iaload, 1) := by decide +kernel
theorem dX10_written_63 : decode cX10_written 63 = .ok (.i2c, 1) := by decide +kernel
theorem dX10_written_64 : decode cX10_written 64 = .ok (.goto 4, 3) := by decide +kernel
theorem dX10_written_67 : decode cX10_written 67 = .ok (.iconst 0, 1) := by decide +kernel
theorem dX10_written_68 : decode cX10_written 68 = .ok (.ireturn, 1) := by decide +kernel
set_option maxRecDepth 20000 in
theorem ggX10_mark_X10_isPupil : GoodIn wsX10_mark wsX10_isPupil := goodIn_r _ [5, 6, 7, 8, 4, 9, 83, 84, 85, 86, 87, 88, 89, 90, 91, 92, 93, 94, 95, 96, 97, 98, 99, 100, 101, 102, 103, 104, 105, 106, 107, 108, 109, 110, 111, 112, 113, 114, 115, 116, 117, 118, 119, 120, 121, 122, 123] (by decide +kernel) (by decide +kernel)
set_option maxRecDepth 20000 in
theorem gX10_mark_X10_isPupil : GoodIn wsX10_mark (wsV RX10 131 RX10 yX10_isPupil wsX10_isPupil) := goodIn_app (goodIn_of _ (by decide +kernel)) ggX10_mark_X10_isPupil
set_option maxRecDepth 20000 in
theorem ggX10_mark_X10_isQuestion : GoodIn wsX10_mark wsX10_isQuestion := goodIn_r _ [12, 7, 8, 4, 9] (by decide +kernel) (by decide +kernel)
set_option maxRecDepth 20000 in
theorem gX10_mark_X10_isQuestion : GoodIn wsX10_mark (va_wsS RX10 138 yX10_isQuestion wsX10_isQuestion) := goodIn_app (goodIn_of _ (by decide +kernel)) ggX10_mark_X10_isQuestion
set_option maxRecDepth 20000 in
theorem ggX10_mark_X10_asked : GoodIn wsX10_mark wsX10_asked := goodIn_r _ [16, 17, 83, 84, 85, 86, 87, 88, 89, 90, 91, 92, 93, 94, 95, 96, 97, 98, 99, 100, 101, 102, 103, 104, 105, 106, 107, 108, 109, 110, 111, 112, 113, 114, 115, 116, 117, 118, 119, 120, 121, 122, 123] (by decide +kernel) (by decide +kernel)
set_option maxRecDepth 20000 in
theorem gX10_mark_X10_asked : GoodIn wsX10_mark (wsV RX10 145 RX10 yX10_asked wsX10_asked) := goodIn_app (goodIn_of _ (by decide +kernel)) ggX10_mark_X10_asked
set_option maxRecDepth 20000 in
theorem ggX10_mark_X10_marked : GoodIn wsX10_mark wsX10_marked := goodIn_r _ [21, 22, 23, 24, 25, 26, 4, 27, 28, 29, 30, 31, 32, 33, 34, 35, 36, 37, 38, 39, 40, 41, 42, 43, 44, 45, 46, 47, 48, 49, 50, 51, 52, 53, 54, 55, 56, 57, 58, 59, 60, 61, 62, 63, 64, 65, 66, 67, 68, 69, 70, 71, 72, 73, 7, 8, 9, 74, 75, 76, 77, 78, 79, 80, 81, 82, 83, 84, 85, 86, 87, 88, 89, 90, 91, 92, 93, 94, 95, 96, 97, 98, 99, 100, 101, 102, 103, 104, 105, 106, 107, 108, 109, 110, 111, 112, 113, 114, 115, 116, 117, 118, 119, 120, 121, 122, 123] (by decide +kernel) (by decide +kernel)
set_option maxRecDepth 20000 in
theorem gX10_mark_X10_marked : GoodIn wsX10_mark (wsV RX10 215 RX10 yX10_marked wsX10_marked) := goodIn_app (goodIn_of _ (by decide +kernel)) ggX10_mark_X10_marked
theorem dX10_mark_0 : decode cX10_mark 0 = .ok (.aload_n 0, 1) := by decide +kernel
theorem dX10_mark_1 : decode cX10_mark 1 = .ok (.aload_n 0, 1) := by decide +kernel
theorem dX10_mark_2 : decode cX10_mark 2 = .ok (.iload_n 1, 1) := by decide +kernel
theorem dX10_mark_3 : decode cX10_mark 3 = .ok (.invokevirtual 131, 3) := by decide +kernel
theorem dX10_mark_6 : decode cX10_mark 6 = .ok (.ifCond .eq 14, 3) := by decide +kernel
theorem dX10_mark_9 : decode cX10_mark 9 = .ok (.iload_n 2, 1) := by decide +kernel
theorem dX10_mark_10 : decode cX10_mark 10 = .ok (.invokestatic 138, 3) := by decide +kernel
theorem dX10_mark_13 : decode cX10_mark 13 = .ok (.ifCond .eq 7, 3) := by decide +kernel
theorem dX10_mark_16 : decode cX10_mark 16 = .ok (.iconst 1, 1) := by decide +kernel
theorem dX10_mark_17 : decode cX10_mark 17 = .ok (.goto 4, 3) := by decide +kernel
theorem dX10_mark_20 : decode cX10_mark 20 = .ok (.iconst 0, 1) := by decide +kernel
theorem dX10_mark_21 : decode cX10_mark 21 = .ok (.invokevirtual 145, 3) := by decide +kernel
theorem dX10_mark_24 : decode cX10_mark 24 = .ok (.ifCond .eq 15, 3) := by decide +kernel
theorem dX10_mark_27 : decode cX10_mark 27 = .ok (.aload_n 0, 1) := by decide +kernel
theorem dX10_mark_28 : decode cX10_mark 28 = .ok (.iconst 4, 1) := by decide +kernel
theorem dX10_mark_29 : decode cX10_mark 29 = .ok (.iload_n 1, 1) := by decide +kernel
theorem dX10_mark_30 : decode cX10_mark 30 = .ok (.imul, 1) := by decide +kernel
theorem dX10_mark_31 : decode cX10_mark 31 = .ok (.iload_n 2, 1) := by decide +kernel
theorem dX10_mark_32 : decode cX10_mark 32 = .ok (.iadd, 1) := by decide +kernel
theorem dX10_mark_33 : decode cX10_mark 33 = .ok (.invokevirtual 215, 3) := by decide +kernel
theorem dX10_mark_36 : decode cX10_mark 36 = .ok (.goto 4, 3) := by decide +kernel
theorem dX10_mark_39 : decode cX10_mark 39 = .ok (.iconst 0, 1) := by decide +kernel
theorem dX10_mark_40 : decode cX10_mark 40 = .ok (.ireturn, 1) := by decide +kernel
set_option maxRecDepth 20000 in
theorem ggX10_markAnew_X10_isPupil : GoodIn wsX10_markAnew wsX10_isPupil := goodIn_r _ [5, 6, 7, 8, 4, 9, 83, 84, 85, 86, 87, 88, 89, 90, 91, 92, 93, 94, 95, 96, 97, 98, 99, 100, 101, 102, 103, 104, 105, 106, 107, 108, 109, 110, 111, 112, 113, 114, 115, 116, 117, 118, 119, 120, 121, 122, 123] (by decide +kernel) (by decide +kernel)
set_option maxRecDepth 20000 in
theorem gX10_markAnew_X10_isPupil : GoodIn wsX10_markAnew (wsV RX10 131 RX10 yX10_isPupil wsX10_isPupil) := goodIn_app (goodIn_of _ (by decide +kernel)) ggX10_markAnew_X10_isPupil
set_option maxRecDepth 20000 in
theorem ggX10_markAnew_X10_isQuestion : GoodIn wsX10_markAnew wsX10_isQuestion := goodIn_r _ [12, 7, 8, 4, 9] (by decide +kernel) (by decide +kernel)
set_option maxRecDepth 20000 in
theorem gX10_markAnew_X10_isQuestion : GoodIn wsX10_markAnew (va_wsS RX10 138 yX10_isQuestion wsX10_isQuestion) := goodIn_app (goodIn_of _ (by decide +kernel)) ggX10_markAnew_X10_isQuestion
set_option maxRecDepth 20000 in
theorem ggX10_markAnew_X10_asked : GoodIn wsX10_markAnew wsX10_asked := goodIn_r _ [16, 17, 83, 84, 85, 86, 87, 88, 89, 90, 91, 92, 93, 94, 95, 96, 97, 98, 99, 100, 101, 102, 103, 104, 105, 106, 107, 108, 109, 110, 111, 112, 113, 114, 115, 116, 117, 118, 119, 120, 121, 122, 123] (by decide +kernel) (by decide +kernel)
set_option maxRecDepth 20000 in
theorem gX10_markAnew_X10_asked : GoodIn wsX10_markAnew (wsV RX10 145 RX10 yX10_asked wsX10_asked) := goodIn_app (goodIn_of _ (by decide +kernel)) ggX10_markAnew_X10_asked
set_option maxRecDepth 20000 in
theorem ggX10_markAnew_X10_marked : GoodIn wsX10_markAnew wsX10_marked := goodIn_r _ [21, 22, 23, 24, 25, 26, 4, 27, 28, 29, 30, 31, 32, 33, 34, 35, 36, 37, 38, 39, 40, 41, 42, 43, 44, 45, 46, 47, 48, 49, 50, 51, 52, 53, 54, 55, 56, 57, 58, 59, 60, 61, 62, 63, 64, 65, 66, 67, 68, 69, 70, 71, 72, 73, 7, 8, 9, 74, 75, 76, 77, 78, 79, 80, 81, 82, 83, 84, 85, 86, 87, 88, 89, 90, 91, 92, 93, 94, 95, 96, 97, 98, 99, 100, 101, 102, 103, 104, 105, 106, 107, 108, 109, 110, 111, 112, 113, 114, 115, 116, 117, 118, 119, 120, 121, 122, 123] (by decide +kernel) (by decide +kernel)
set_option maxRecDepth 20000 in
theorem gX10_markAnew_X10_marked : GoodIn wsX10_markAnew (wsV RX10 215 RX10 yX10_marked wsX10_marked) := goodIn_app (goodIn_of _ (by decide +kernel)) ggX10_markAnew_X10_marked
theorem dX10_markAnew_0 : decode cX10_markAnew 0 = .ok (.aload_n 0, 1) := by decide +kernel
theorem dX10_markAnew_1 : decode cX10_markAnew 1 = .ok (.aload_n 0, 1) := by decide +kernel
theorem dX10_markAnew_2 : decode cX10_markAnew 2 = .ok (.iload_n 1, 1) := by decide +kernel
theorem dX10_markAnew_3 : decode cX10_markAnew 3 = .ok (.invokevirtual 131, 3) := by decide +kernel
theorem dX10_markAnew_6 : decode cX10_markAnew 6 = .ok (.ifCond .eq 14, 3) := by decide +kernel
theorem dX10_markAnew_9 : decode cX10_markAnew 9 = .ok (.iload_n 2, 1) := by decide +kernel
theorem dX10_markAnew_10 : decode cX10_markAnew 10 = .ok (.invokestatic 138, 3) := by decide +kernel
theorem dX10_markAnew_13 : decode cX10_markAnew 13 = .ok (.ifCond .eq 7, 3) := by decide +kernel
theorem dX10_markAnew_16 : decode cX10_markAnew 16 = .ok (.iconst 1, 1) := by decide +kernel
theorem dX10_markAnew_17 : decode cX10_markAnew 17 = .ok (.goto 4, 3) := by decide +kernel
theorem dX10_markAnew_20 : decode cX10_markAnew 20 = .ok (.iconst 0, 1) := by decide +kernel
theorem dX10_markAnew_21 : decode cX10_markAnew 21 = .ok (.invokevirtual 145, 3) := by decide +kernel
theorem dX10_markAnew_24 : decode cX10_markAnew 24 = .ok (.ifCond .eq 15, 3) := by decide +kernel
theorem dX10_markAnew_27 : decode cX10_markAnew 27 = .ok (.aload_n 0, 1) := by decide +kernel
theorem dX10_markAnew_28 : decode cX10_markAnew 28 = .ok (.iconst 4, 1) := by decide +kernel
theorem dX10_markAnew_29 : decode cX10_markAnew 29 = .ok (.iload_n 1, 1) := by decide +kernel
theorem dX10_markAnew_30 : decode cX10_markAnew 30 = .ok (.imul, 1) := by decide +kernel
theorem dX10_markAnew_31 : decode cX10_markAnew 31 = .ok (.iload_n 2, 1) := by decide +kernel
theorem dX10_markAnew_32 : decode cX10_markAnew 32 = .ok (.iadd, 1) := by decide +kernel
theorem dX10_markAnew_33 : decode cX10_markAnew 33 = .ok (.invokevirtual 215, 3) := by decide +kernel
theorem dX10_markAnew_36 : decode cX10_markAnew 36 = .ok (.goto 4, 3) := by decide +kernel
theorem dX10_markAnew_39 : decode cX10_markAnew 39 = .ok (.iconst 0, 1) := by decide +kernel
theorem dX10_markAnew_40 : decode cX10_markAnew 40 = .ok (.ireturn, 1) := by decide +kernel
set_option maxRecDepth 20000 in
theorem ggX10_answer_X10_isPupil : GoodIn wsX10_answer wsX10_isPupil := goodIn_r _ [8, 9, 10, 11, 7, 12, 79, 80, 81, 82, 83, 84, 85, 86, 87, 88, 89, 90, 91, 92, 93, 94, 95, 96, 97, 98, 99, 100, 101, 102, 103, 104, 105, 106, 107, 108, 109, 110, 111, 112, 113, 114, 115, 116, 117, 118, 119] (by decide +kernel) (by decide +kernel)
set_option maxRecDepth 20000 in
theorem gX10_answer_X10_isPupil : GoodIn wsX10_answer (wsV RX10 131 RX10 yX10_isPupil wsX10_isPupil) := goodIn_app (goodIn_of _ (by decide +kernel)) ggX10_answer_X10_isPupil
set_option maxRecDepth 20000 in
theorem ggX10_answer_X10_isQuestion : GoodIn wsX10_answer wsX10_isQuestion := goodIn_r _ [15, 10, 11, 7, 12] (by decide +kernel) (by decide +kernel)
set_option maxRecDepth 20000 in
theorem gX10_answer_X10_isQuestion : GoodIn wsX10_answer (va_wsS RX10 138 yX10_isQuestion wsX10_isQuestion) := goodIn_app (goodIn_of _ (by decide +kernel)) ggX10_answer_X10_isQuestion
set_option maxRecDepth 20000 in
theorem ggX10_answer_X10_in : GoodIn wsX10_answer wsX10_in := goodIn_r _ [12] (by decide +kernel) (by decide +kernel)
set_option maxRecDepth 20000 in
theorem gX10_answer_X10_in : GoodIn wsX10_answer (va_wsS RX10 120 yX10_in wsX10_in) := goodIn_app (goodIn_of _ (by decide +kernel)) ggX10_answer_X10_in
set_option maxRecDepth 20000 in
theorem ggX10_answer_X10_asked_ : GoodIn wsX10_answer wsX10_asked_ := goodIn_r _ [19, 20, 79, 80, 81, 82, 83, 84, 85, 86, 87, 88, 89, 90, 91, 92, 93, 94, 95, 96, 97, 98, 99, 100, 101, 102, 103, 104, 105, 106, 107, 108, 109, 110, 111, 112, 113, 114, 115, 116, 117, 118, 119] (by decide +kernel) (by decide +kernel)
set_option maxRecDepth 20000 in
theorem gX10_answer_X10_asked_ : GoodIn wsX10_answer (wsV RX10 127 RX10 yX10_asked_ wsX10_asked_) := goodIn_app (goodIn_of _ (by decide +kernel)) ggX10_answer_X10_asked_
set_option maxRecDepth 20000 in
theorem ggX10_answer_X10_counts : GoodIn wsX10_answer wsX10_counts := goodIn_r _ [24, 2, 25, 26, 27, 28, 29, 30, 7, 31, 32, 79, 80, 81, 82, 83, 84, 85, 86, 87, 88, 89, 90, 91, 92, 93, 94, 95, 96, 97, 98, 99, 100, 101, 102, 103, 104, 105, 106, 107, 108, 109, 110, 111, 112, 113, 114, 115, 116, 117, 118, 119] (by decide +kernel) (by decide +kernel)
set_option maxRecDepth 20000 in
theorem gX10_answer_X10_counts : GoodIn wsX10_answer (wsV RX10 161 RX10 yX10_counts wsX10_counts) := goodIn_app (goodIn_of _ (by decide +kernel)) ggX10_answer_X10_counts
set_option maxRecDepth 20000 in
theorem ggX10_answer_X10_wants : GoodIn wsX10_answer wsX10_wants := goodIn_r _ [36, 3, 37, 38, 39, 7, 40, 41, 42, 43, 44, 45, 46, 47, 48, 49, 50, 1, 2, 51, 21, 22, 23, 24, 25, 26, 27, 28, 29, 30, 31, 32, 52, 53, 54, 55, 56, 57, 58, 59, 60, 61, 62, 63, 64, 65, 66, 67, 68, 69, 10, 11, 12, 70, 71, 72, 73, 74, 75, 76, 77, 78, 79, 80, 81, 82, 83, 84, 85, 86, 87, 88, 89, 90, 91, 92, 93, 94, 95, 96, 97, 98, 99, 100, 101, 102, 103, 104, 105, 106, 107, 108, 109, 110, 111, 112, 113, 114, 115, 116, 117, 118, 119] (by decide +kernel) (by decide +kernel)
set_option maxRecDepth 20000 in
theorem gX10_answer_X10_wants : GoodIn wsX10_answer (wsV RX10 193 RX10 yX10_wants wsX10_wants) := goodIn_app (goodIn_of _ (by decide +kernel)) ggX10_answer_X10_wants
theorem dX10_answer_0 : decode cX10_answer 0 = .ok (.aload_n 0, 1) := by decide +kernel
theorem dX10_answer_1 : decode cX10_answer 1 = .ok (.aload_n 0, 1) := by decide +kernel
theorem dX10_answer_2 : decode cX10_answer 2 = .ok (.iload_n 1, 1) := by decide +kernel
theorem dX10_answer_3 : decode cX10_answer 3 = .ok (.invokevirtual 131, 3) := by decide +kernel
theorem dX10_answer_6 : decode cX10_answer 6 = .ok (.ifCond .eq 14, 3) := by decide +kernel
theorem dX10_answer_9 : decode cX10_answer 9 = .ok (.iload_n 2, 1) := by decide +kernel
theorem dX10_answer_10 : decode cX10_answer 10 = .ok (.invokestatic 138, 3) := by decide +kernel
theorem dX10_answer_13 : decode cX10_answer 13 = .ok (.ifCond .eq 7, 3) := by decide +kernel
theorem dX10_answer_16 : decode cX10_answer 16 = .ok (.iconst 1, 1) := by decide +kernel
theorem dX10_answer_17 : decode cX10_answer 17 = .ok (.goto 4, 3) := by decide +kernel
theorem dX10_answer_20 : decode cX10_answer 20 = .ok (.iconst 0, 1) := by decide +kernel
theorem dX10_answer_21 : decode cX10_answer 21 = .ok (.iload_n 3, 1) := by decide +kernel
theorem dX10_answer_22 : decode cX10_answer 22 = .ok (.iconst 0, 1) := by decide +kernel
theorem dX10_answer_23 : decode cX10_answer 23 = .ok (.iconst 3, 1) := by decide +kernel
theorem dX10_answer_24 : decode cX10_answer 24 = .ok (.invokestatic 120, 3) := by decide +kernel
theorem dX10_answer_27 : decode cX10_answer 27 = .ok (.invokevirtual 127, 3) := by decide +kernel
theorem dX10_answer_30 : decode cX10_answer 30 = .ok (.ifCond .ne 5, 3) := by decide +kernel
theorem dX10_answer_33 : decode cX10_answer 33 = .ok (.iconst 0, 1) := by decide +kernel
theorem dX10_answer_34 : decode cX10_answer 34 = .ok (.ireturn, 1) := by decide +kernel
theorem dX10_answer_35 : decode cX10_answer 35 = .ok (.iconst 4, 1) := by decide +kernel
theorem dX10_answer_36 : decode cX10_answer 36 = .ok (.iload_n 1, 1) := by decide +kernel
theorem dX10_answer_37 : decode cX10_answer 37 = .ok (.imul, 1) := by decide +kernel
theorem dX10_answer_38 : decode cX10_answer 38 = .ok (.iload_n 2, 1) := by decide +kernel
theorem dX10_answer_39 : decode cX10_answer 39 = .ok (.iadd, 1) := by decide +kernel
theorem dX10_answer_40 : decode cX10_answer 40 = .ok (.istore 4, 2) := by decide +kernel
theorem dX10_answer_42 : decode cX10_answer 42 = .ok (.iconst 0, 1) := by decide +kernel
theorem dX10_answer_43 : decode cX10_answer 43 = .ok (.istore 5, 2) := by decide +kernel
theorem dX10_answer_45 : decode cX10_answer 45 = .ok (.iconst 0, 1) := by decide +kernel
theorem dX10_answer_46 : decode cX10_answer 46 = .ok (.istore 6, 2) := by decide +kernel
theorem dX10_answer_48 : decode cX10_answer 48 = .ok (.iconst 0, 1) := by decide +kernel
theorem dX10_answer_49 : decode cX10_answer 49 = .ok (.istore 7, 2) := by decide +kernel
theorem dX10_answer_51 : decode cX10_answer 51 = .ok (.iload 7, 2) := by decide +kernel
theorem dX10_answer_53 : decode cX10_answer 53 = .ok (.aload_n 0, 1) := by decide +kernel
theorem dX10_answer_54 : decode cX10_answer 54 = .ok (.getfield 158, 3) := by decide +kernel
theorem dX10_answer_57 : decode cX10_answer 57 = .ok (.if_icmp .ge 62, 3) := by decide +kernel
theorem dX10_answer_60 : decode cX10_answer 60 = .ok (.iload 5, 2) := by decide +kernel
theorem dX10_answer_62 : decode cX10_answer 62 = .ok (.aload_n 0, 1) := by decide +kernel
theorem dX10_answer_63 : decode cX10_answer 63 = .ok (.getfield 84, 3) := by decide +kernel
theorem dX10_answer_66 : decode cX10_answer 66 = .ok (.iload 7, 2) := by decide +kernel
theorem dX10_answer_68 : decode cX10_answer 68 = .ok (.iaload, 1) := by decide +kernel
theorem dX10_answer_69 : decode cX10_answer 69 = .ok (.iload 4, 2) := by decide +kernel
theorem dX10_answer_71 : decode cX10_answer 71 = .ok (.if_icmp .ne 16, 3) := by decide +kernel
theorem dX10_answer_74 : decode cX10_answer 74 = .ok (.aload_n 0, 1) := by decide +kernel
theorem dX10_answer_75 : decode cX10_answer 75 = .ok (.iload 7, 2) := by decide +kernel
theorem dX10_answer_77 : decode cX10_answer 77 = .ok (.invokevirtual 161, 3) := by decide +kernel
theorem dX10_answer_80 : decode cX10_answer 80 = .ok (.ifCond .eq 7, 3) := by decide +kernel
theorem dX10_answer_83 : decode cX10_answer 83 = .ok (.iconst 1, 1) := by decide +kernel
theorem dX10_answer_84 : decode cX10_answer 84 = .ok (.goto 4, 3) := by decide +kernel
theorem dX10_answer_87 : decode cX10_answer 87 = .ok (.iconst 0, 1) := by decide +kernel
theorem dX10_answer_88 : decode cX10_answer 88 = .ok (.iadd, 1) := by decide +kernel
theorem dX10_answer_89 : decode cX10_answer 89 = .ok (.istore 5, 2) := by decide +kernel
theorem dX10_answer_91 : decode cX10_answer 91 = .ok (.iload 6, 2) := by decide +kernel
theorem dX10_answer_93 : decode cX10_answer 93 = .ok (.aload_n 0, 1) := by decide +kernel
theorem dX10_answer_94 : decode cX10_answer 94 = .ok (.getfield 84, 3) := by decide +kernel
theorem dX10_answer_97 : decode cX10_answer 97 = .ok (.iload 7, 2) := by decide +kernel
theorem dX10_answer_99 : decode cX10_answer 99 = .ok (.iaload, 1) := by decide +kernel
theorem dX10_answer_100 : decode cX10_answer 100 = .ok (.iload 4, 2) := by decide +kernel
theorem dX10_answer_102 : decode cX10_answer 102 = .ok (.if_icmp .ne 7, 3) := by decide +kernel
theorem dX10_answer_105 : decode cX10_answer 105 = .ok (.iconst 1, 1) := by decide +kernel
theorem dX10_answer_106 : decode cX10_answer 106 = .ok (.goto 4, 3) := by decide +kernel
theorem dX10_answer_109 : decode cX10_answer 109 = .ok (.iconst 0, 1) := by decide +kernel
theorem dX10_answer_110 : decode cX10_answer 110 = .ok (.iadd, 1) := by decide +kernel
theorem dX10_answer_111 : decode cX10_answer 111 = .ok (.istore 6, 2) := by decide +kernel
theorem dX10_answer_113 : decode cX10_answer 113 = .ok (.iinc 7 1, 3) := by decide +kernel
theorem dX10_answer_116 : decode cX10_answer 116 = .ok (.goto (-65), 3) := by decide +kernel
theorem dX10_answer_119 : decode cX10_answer 119 = .ok (.iload_n 3, 1) := by decide +kernel
theorem dX10_answer_120 : decode cX10_answer 120 = .ok (.ifCond .ne 8, 3) := by decide +kernel
theorem dX10_answer_123 : decode cX10_answer 123 = .ok (.iload 5, 2) := by decide +kernel
theorem dX10_answer_125 : decode cX10_answer 125 = .ok (.goto 42, 3) := by decide +kernel
theorem dX10_answer_128 : decode cX10_answer 128 = .ok (.iload_n 3, 1) := by decide +kernel
theorem dX10_answer_129 : decode cX10_answer 129 = .ok (.iconst 1, 1) := by decide +kernel
theorem dX10_answer_130 : decode cX10_answer 130 = .ok (.if_icmp .ne 8, 3) := by decide +kernel
theorem dX10_answer_133 : decode cX10_answer 133 = .ok (.iload 6, 2) := by decide +kernel
theorem dX10_answer_135 : decode cX10_answer 135 = .ok (.goto 32, 3) := by decide +kernel
theorem dX10_answer_138 : decode cX10_answer 138 = .ok (.iload_n 3, 1) := by decide +kernel
theorem dX10_answer_139 : decode cX10_answer 139 = .ok (.iconst 2, 1) := by decide +kernel
theorem dX10_answer_140 : decode cX10_answer 140 = .ok (.if_icmp .ne 12, 3) := by decide +kernel
theorem dX10_answer_143 : decode cX10_answer 143 = .ok (.aload_n 0, 1) := by decide +kernel
theorem dX10_answer_144 : decode cX10_answer 144 = .ok (.iload 4, 2) := by decide +kernel
theorem dX10_answer_146 : decode cX10_answer 146 = .ok (.invokevirtual 193, 3) := by decide +kernel
theorem dX10_answer_149 : decode cX10_answer 149 = .ok (.goto 18, 3) := by decide +kernel
theorem dX10_answer_152 : decode cX10_answer 152 = .ok (.aload_n 0, 1) := by decide +kernel
theorem dX10_answer_153 : decode cX10_answer 153 = .ok (.getfield 30, 3) := by decide +kernel
theorem dX10_answer_156 : decode cX10_answer 156 = .ok (.iload 4, 2) := by decide +kernel
theorem dX10_answer_158 : decode cX10_answer 158 = .ok (.baload, 1) := by decide +kernel
theorem dX10_answer_159 : decode cX10_answer 159 = .ok (.ifCond .eq 7, 3) := by decide +kernel
theorem dX10_answer_162 : decode cX10_answer 162 = .ok (.iconst 1, 1) := by decide +kernel
theorem dX10_answer_163 : decode cX10_answer 163 = .ok (.goto 4, 3) := by decide +kernel
theorem dX10_answer_166 : decode cX10_answer 166 = .ok (.iconst 0, 1) := by decide +kernel
theorem dX10_answer_167 : decode cX10_answer 167 = .ok (.ireturn, 1) := by decide +kernel
set_option maxRecDepth 20000 in
theorem ggX10_total_X10_isPupil : GoodIn wsX10_total wsX10_isPupil := goodIn_r _ [5, 6, 7, 8, 4, 9, 85, 86, 87, 88, 89, 90, 91, 92, 93, 94, 95, 96, 97, 98, 99, 100, 101, 102, 103, 104, 105, 106, 107, 108, 109, 110, 111, 112, 113, 114, 115, 116, 117, 118, 119, 120, 121, 122, 123, 124, 125] (by decide +kernel) (by decide +kernel)
set_option maxRecDepth 20000 in
theorem gX10_total_X10_isPupil : GoodIn wsX10_total (wsV RX10 131 RX10 yX10_isPupil wsX10_isPupil) := goodIn_app (goodIn_of _ (by decide +kernel)) ggX10_total_X10_isPupil
set_option maxRecDepth 20000 in
theorem ggX10_total_X10_asked : GoodIn wsX10_total wsX10_asked := goodIn_r _ [13, 14, 85, 86, 87, 88, 89, 90, 91, 92, 93, 94, 95, 96, 97, 98, 99, 100, 101, 102, 103, 104, 105, 106, 107, 108, 109, 110, 111, 112, 113, 114, 115, 116, 117, 118, 119, 120, 121, 122, 123, 124, 125] (by decide +kernel) (by decide +kernel)
set_option maxRecDepth 20000 in
theorem gX10_total_X10_asked : GoodIn wsX10_total (wsV RX10 145 RX10 yX10_asked wsX10_asked) := goodIn_app (goodIn_of _ (by decide +kernel)) ggX10_total_X10_asked
set_option maxRecDepth 20000 in
theorem ggX10_total_X10_totalOf : GoodIn wsX10_total wsX10_totalOf := goodIn_r _ [18, 19, 20, 21, 22, 4, 23, 24, 25, 26, 27, 28, 29, 30, 31, 32, 33, 34, 35, 36, 37, 38, 39, 40, 41, 42, 43, 44, 45, 46, 47, 48, 49, 50, 51, 52, 53, 54, 55, 56, 57, 58, 59, 60, 61, 62, 63, 64, 65, 66, 67, 68, 69, 70, 71, 72, 73, 74, 75, 7, 8, 9, 76, 77, 78, 79, 80, 81, 82, 83, 84, 85, 86, 87, 88, 89, 90, 91, 92, 93, 94, 95, 96, 97, 98, 99, 100, 101, 102, 103, 104, 105, 106, 107, 108, 109, 110, 111, 112, 113, 114, 115, 116, 117, 118, 119, 120, 121, 122, 123, 124, 125] (by decide +kernel) (by decide +kernel)
set_option maxRecDepth 20000 in
theorem gX10_total_X10_totalOf : GoodIn wsX10_total (wsV RX10 218 RX10 yX10_totalOf wsX10_totalOf) := goodIn_app (goodIn_of _ (by decide +kernel)) ggX10_total_X10_totalOf
theorem dX10_total_0 : decode cX10_total 0 = .ok (.aload_n 0, 1) := by decide +kernel
theorem dX10_total_1 : decode cX10_total 1 = .ok (.aload_n 0, 1) := by decide +kernel
theorem dX10_total_2 : decode cX10_total 2 = .ok (.iload_n 1, 1) := by decide +kernel
theorem dX10_total_3 : decode cX10_total 3 = .ok (.invokevirtual 131, 3) := by decide +kernel
theorem dX10_total_6 : decode cX10_total 6 = .ok (.invokevirtual 145, 3) := by decide +kernel
theorem dX10_total_9 : decode cX10_total 9 = .ok (.ifCond .eq 11, 3) := by decide +kernel
theorem dX10_total_12 : decode cX10_total 12 = .ok (.aload_n 0, 1) := by decide +kernel
theorem dX10_total_13 : decode cX10_total 13 = .ok (.iload_n 1, 1) := by decide +kernel
theorem dX10_total_14 : decode cX10_total 14 = .ok (.invokevirtual 218, 3) := by decide +kernel
theorem dX10_total_17 : decode cX10_total 17 = .ok (.goto 4, 3) := by decide +kernel
theorem dX10_total_20 : decode cX10_total 20 = .ok (.iconst 0, 1) := by decide +kernel
theorem dX10_total_21 : decode cX10_total 21 = .ok (.ireturn, 1) := by decide +kernel
set_option maxRecDepth 20000 in
theorem ggX10_grade_X10_isPupil : GoodIn wsX10_grade wsX10_isPupil := goodIn_r _ [6, 7, 8, 9, 5, 10, 91, 92, 93, 94, 95, 96, 97, 98, 99, 100, 101, 102, 103, 104, 105, 106, 107, 108, 109, 110, 111, 112, 113, 114, 115, 116, 117, 118, 119, 120, 121, 122, 123, 124, 125, 126, 127, 128, 129, 130, 131] (by decide +kernel) (by decide +kernel)
set_option maxRecDepth 20000 in
theorem gX10_grade_X10_isPupil : GoodIn wsX10_grade (wsV RX10 131 RX10 yX10_isPupil wsX10_isPupil) := goodIn_app (goodIn_of _ (by decide +kernel)) ggX10_grade_X10_isPupil
set_option maxRecDepth 20000 in
theorem ggX10_grade_X10_asked : GoodIn wsX10_grade wsX10_asked := goodIn_r _ [14, 15, 91, 92, 93, 94, 95, 96, 97, 98, 99, 100, 101, 102, 103, 104, 105, 106, 107, 108, 109, 110, 111, 112, 113, 114, 115, 116, 117, 118, 119, 120, 121, 122, 123, 124, 125, 126, 127, 128, 129, 130, 131] (by decide +kernel) (by decide +kernel)
set_option maxRecDepth 20000 in
theorem gX10_grade_X10_asked : GoodIn wsX10_grade (wsV RX10 145 RX10 yX10_asked wsX10_asked) := goodIn_app (goodIn_of _ (by decide +kernel)) ggX10_grade_X10_asked
set_option maxRecDepth 20000 in
theorem ggX10_grade_X10_gradeOf : GoodIn wsX10_grade wsX10_gradeOf := goodIn_r _ [19, 20, 21, 22, 23, 5, 24, 25, 26, 27, 28, 29, 30, 31, 32, 33, 34, 35, 36, 37, 38, 39, 40, 41, 42, 43, 44, 45, 46, 47, 48, 49, 50, 51, 52, 53, 54, 55, 56, 57, 58, 59, 60, 61, 62, 63, 64, 65, 66, 67, 68, 69, 70, 71, 72, 73, 74, 75, 76, 77, 78, 79, 80, 81, 8, 9, 10, 82, 83, 84, 85, 86, 87, 88, 89, 90, 91, 92, 93, 94, 95, 96, 97, 98, 99, 100, 101, 102, 103, 104, 105, 106, 107, 108, 109, 110, 111, 112, 113, 114, 115, 116, 117, 118, 119, 120, 121, 122, 123, 124, 125, 126, 127, 128, 129, 130, 131] (by decide +kernel) (by decide +kernel)
set_option maxRecDepth 20000 in
theorem gX10_grade_X10_gradeOf : GoodIn wsX10_grade (wsV RX10 225 RX10 yX10_gradeOf wsX10_gradeOf) := goodIn_app (goodIn_of _ (by decide +kernel)) ggX10_grade_X10_gradeOf
theorem dX10_grade_0 : decode cX10_grade 0 = .ok (.aload_n 0, 1) := by decide +kernel
theorem dX10_grade_1 : decode cX10_grade 1 = .ok (.aload_n 0, 1) := by decide +kernel
theorem dX10_grade_2 : decode cX10_grade 2 = .ok (.iload_n 1, 1) := by decide +kernel
theorem dX10_grade_3 : decode cX10_grade 3 = .ok (.invokevirtual 131, 3) := by decide +kernel
theorem dX10_grade_6 : decode cX10_grade 6 = .ok (.invokevirtual 145, 3) := by decide +kernel
theorem dX10_grade_9 : decode cX10_grade 9 = .ok (.ifCond .ne 7, 3) := by decide +kernel
theorem dX10_grade_12 : decode cX10_grade 12 = .ok (.iconst 0, 1) := by decide +kernel
theorem dX10_grade_13 : decode cX10_grade 13 = .ok (.goto 21, 3) := by decide +kernel
theorem dX10_grade_16 : decode cX10_grade 16 = .ok (.iload_n 2, 1) := by decide +kernel
theorem dX10_grade_17 : decode cX10_grade 17 = .ok (.ifCond .eq 12, 3) := by decide +kernel
theorem dX10_grade_20 : decode cX10_grade 20 = .ok (.aload_n 0, 1) := by decide +kernel
theorem dX10_grade_21 : decode cX10_grade 21 = .ok (.getfield 33, 3) := by decide +kernel
theorem dX10_grade_24 : decode cX10_grade 24 = .ok (.iload_n 1, 1) := by decide +kernel
theorem dX10_grade_25 : decode cX10_grade 25 = .ok (.iaload, 1) := by decide +kernel
theorem dX10_grade_26 : decode cX10_grade 26 = .ok (.goto 8, 3) := by decide +kernel
theorem dX10_grade_29 : decode cX10_grade 29 = .ok (.aload_n 0, 1) := by decide +kernel
theorem dX10_grade_30 : decode cX10_grade 30 = .ok (.iload_n 1, 1) := by decide +kernel
theorem dX10_grade_31 : decode cX10_grade 31 = .ok (.invokevirtual 225, 3) := by decide +kernel
theorem dX10_grade_34 : decode cX10_grade 34 = .ok (.ireturn, 1) := by decide +kernel
set_option maxRecDepth 20000 in
theorem ggX10_changed_X10_gradeOf : GoodIn wsX10_changed wsX10_gradeOf := goodIn_r _ [8, 9, 10, 11, 12, 7, 13, 14, 15, 16, 17, 18, 19, 20, 21, 22, 23, 24, 25, 26, 27, 28, 29, 30, 31, 32, 33, 34, 35, 36, 37, 38, 39, 40, 41, 42, 43, 44, 45, 46, 47, 48, 49, 50, 51, 52, 53, 54, 55, 56, 57, 58, 59, 60, 61, 62, 63, 64, 65, 66, 67, 68, 69, 70, 71, 72, 73, 74, 75, 76, 77, 78, 79, 80, 81, 82, 83, 84, 85, 86, 87, 88, 89, 90, 91, 92, 93, 94, 95, 96, 97, 98, 99, 100, 101, 102, 103, 104, 105, 106, 107, 108, 109, 110, 111, 112, 113, 114, 115, 116, 117, 118, 119, 120, 121, 122, 123] (by decide +kernel) (by decide +kernel)
set_option maxRecDepth 20000 in
theorem gX10_changed_X10_gradeOf : GoodIn wsX10_changed (wsV RX10 225 RX10 yX10_gradeOf wsX10_gradeOf) := goodIn_app (goodIn_of _ (by decide +kernel)) ggX10_changed_X10_gradeOf
theorem dX10_changed_0 : decode cX10_changed 0 = .ok (.aload_n 0, 1) := by decide +kernel
theorem dX10_changed_1 : decode cX10_changed 1 = .ok (.iconst 0, 1) := by decide +kernel
theorem dX10_changed_2 : decode cX10_changed 2 = .ok (.putfield 114, 3) := by decide +kernel
theorem dX10_changed_5 : decode cX10_changed 5 = .ok (.iconst 0, 1) := by decide +kernel
theorem dX10_changed_6 : decode cX10_changed 6 = .ok (.istore_n 1, 1) := by decide +kernel
theorem dX10_changed_7 : decode cX10_changed 7 = .ok (.iconst 0, 1) := by decide +kernel
theorem dX10_changed_8 : decode cX10_changed 8 = .ok (.istore_n 2, 1) := by decide +kernel
theorem dX10_changed_9 : decode cX10_changed 9 = .ok (.iload_n 2, 1) := by decide +kernel
theorem dX10_changed_10 : decode cX10_changed 10 = .ok (.aload_n 0, 1) := by decide +kernel
theorem dX10_changed_11 : decode cX10_changed 11 = .ok (.getfield 117, 3) := by decide +kernel
theorem dX10_changed_14 : decode cX10_changed 14 = .ok (.if_icmp .ge 41, 3) := by decide +kernel
theorem dX10_changed_17 : decode cX10_changed 17 = .ok (.iload_n 1, 1) := by decide +kernel
theorem dX10_changed_18 : decode cX10_changed 18 = .ok (.aload_n 0, 1) := by decide +kernel
theorem dX10_changed_19 : decode cX10_changed 19 = .ok (.getfield 33, 3) := by decide +kernel
theorem dX10_changed_22 : decode cX10_changed 22 = .ok (.iload_n 2, 1) := by decide +kernel
theorem dX10_changed_23 : decode cX10_changed 23 = .ok (.iaload, 1) := by decide +kernel
theorem dX10_changed_24 : decode cX10_changed 24 = .ok (.iconst (-1), 1) := by decide +kernel
theorem dX10_changed_25 : decode cX10_changed 25 = .ok (.if_icmp .eq 21, 3) := by decide +kernel
theorem dX10_changed_28 : decode cX10_changed 28 = .ok (.aload_n 0, 1) := by decide +kernel
theorem dX10_changed_29 : decode cX10_changed 29 = .ok (.iload_n 2, 1) := by decide +kernel
theorem dX10_changed_30 : decode cX10_changed 30 = .ok (.invokevirtual 225, 3) := by decide +kernel
theorem dX10_changed_33 : decode cX10_changed 33 = .ok (.aload_n 0, 1) := by decide +kernel
theorem dX10_changed_34 : decode cX10_changed 34 = .ok (.getfield 33, 3) := by decide +kernel
theorem dX10_changed_37 : decode cX10_changed 37 = .ok (.iload_n 2, 1) := by decide +kernel
theorem dX10_changed_38 : decode cX10_changed 38 = .ok (.iaload, 1) := by decide +kernel
theorem dX10_changed_39 : decode cX10_changed 39 = .ok (.if_icmp .eq 7, 3) := by decide +kernel
theorem dX10_changed_42 : decode cX10_changed 42 = .ok (.iconst 1, 1) := by decide +kernel
theorem dX10_changed_43 : decode cX10_changed 43 = .ok (.goto 4, 3) := by decide +kernel
theorem dX10_changed_46 : decode cX10_changed 46 = .ok (.iconst 0, 1) := by decide +kernel
theorem dX10_changed_47 : decode cX10_changed 47 = .ok (.iadd, 1) := by decide +kernel
theorem dX10_changed_48 : decode cX10_changed 48 = .ok (.istore_n 1, 1) := by decide +kernel
theorem dX10_changed_49 : decode cX10_changed 49 = .ok (.iinc 2 1, 3) := by decide +kernel
theorem dX10_changed_52 : decode cX10_changed 52 = .ok (.goto (-43), 3) := by decide +kernel
theorem dX10_changed_55 : decode cX10_changed 55 = .ok (.iload_n 1, 1) := by decide +kernel
theorem dX10_changed_56 : decode cX10_changed 56 = .ok (.ireturn, 1) := by decide +kernel
set_option maxRecDepth 20000 in
theorem ggX10_lineAt_X10_totalOf : GoodIn wsX10_lineAt wsX10_totalOf := goodIn_r _ [6, 7, 8, 9, 10, 5, 11, 12, 13, 14, 15, 16, 17, 18, 19, 20, 21, 22, 23, 24, 25, 26, 27, 28, 29, 30, 31, 32, 33, 34, 35, 36, 37, 38, 39, 40, 41, 42, 43, 44, 45, 46, 47, 48, 49, 50, 51, 52, 53, 54, 55, 56, 57, 58, 59, 60, 61, 62, 63, 64, 65, 66, 67, 68, 69, 70, 71, 72, 73, 74, 75, 76, 77, 78, 79, 80, 81, 82, 83, 84, 85, 86, 87, 88, 89, 90, 91, 92, 93, 94, 95, 96, 97, 98, 99, 100, 101, 102, 103, 104, 105, 106, 107, 108, 109, 110, 111, 112, 113, 114, 115, 116] (by decide +kernel) (by decide +kernel)
set_option maxRecDepth 20000 in
theorem gX10_lineAt_X10_totalOf : GoodIn wsX10_lineAt (wsV RX10 218 RX10 yX10_totalOf wsX10_totalOf) := goodIn_app (goodIn_of _ (by decide +kernel)) ggX10_lineAt_X10_totalOf
theorem dX10_lineAt_0 : decode cX10_lineAt 0 = .ok (.iconst 0, 1) := by decide +kernel
theorem dX10_lineAt_1 : decode cX10_lineAt 1 = .ok (.istore_n 2, 1) := by decide +kernel
theorem dX10_lineAt_2 : decode cX10_lineAt 2 = .ok (.iconst 0, 1) := by decide +kernel
theorem dX10_lineAt_3 : decode cX10_lineAt 3 = .ok (.istore_n 3, 1) := by decide +kernel
theorem dX10_lineAt_4 : decode cX10_lineAt 4 = .ok (.iload_n 3, 1) := by decide +kernel
theorem dX10_lineAt_5 : decode cX10_lineAt 5 = .ok (.aload_n 0, 1) := by decide +kernel
theorem dX10_lineAt_6 : decode cX10_lineAt 6 = .ok (.getfield 117, 3) := by decide +kernel
theorem dX10_lineAt_9 : decode cX10_lineAt 9 = .ok (.if_icmp .ge 26, 3) := by decide +kernel
theorem dX10_lineAt_12 : decode cX10_lineAt 12 = .ok (.iload_n 2, 1) := by decide +kernel
theorem dX10_lineAt_13 : decode cX10_lineAt 13 = .ok (.aload_n 0, 1) := by decide +kernel
theorem dX10_lineAt_14 : decode cX10_lineAt 14 = .ok (.iload_n 3, 1) := by decide +kernel
theorem dX10_lineAt_15 : decode cX10_lineAt 15 = .ok (.invokevirtual 218, 3) := by decide +kernel
theorem dX10_lineAt_18 : decode cX10_lineAt 18 = .ok (.iconst (-1), 1) := by decide +kernel
theorem dX10_lineAt_19 : decode cX10_lineAt 19 = .ok (.if_icmp .ne 7, 3) := by decide +kernel
theorem dX10_lineAt_22 : decode cX10_lineAt 22 = .ok (.iconst 0, 1) := by decide +kernel
theorem dX10_lineAt_23 : decode cX10_lineAt 23 = .ok (.goto 4, 3) := by decide +kernel
theorem dX10_lineAt_26 : decode cX10_lineAt 26 = .ok (.iconst 1, 1) := by decide +kernel
theorem dX10_lineAt_27 : decode cX10_lineAt 27 = .ok (.iadd, 1) := by decide +kernel
theorem dX10_lineAt_28 : decode cX10_lineAt 28 = .ok (.istore_n 2, 1) := by decide +kernel
theorem dX10_lineAt_29 : decode cX10_lineAt 29 = .ok (.iinc 3 1, 3) := by decide +kernel
theorem dX10_lineAt_32 : decode cX10_lineAt 32 = .ok (.goto (-28), 3) := by decide +kernel
theorem dX10_lineAt_35 : decode cX10_lineAt 35 = .ok (.iconst 0, 1) := by decide +kernel
theorem dX10_lineAt_36 : decode cX10_lineAt 36 = .ok (.istore_n 3, 1) := by decide +kernel
theorem dX10_lineAt_37 : decode cX10_lineAt 37 = .ok (.iload_n 2, 1) := by decide +kernel
theorem dX10_lineAt_38 : decode cX10_lineAt 38 = .ok (.ifCond .le 63, 3) := by decide +kernel
theorem dX10_lineAt_41 : decode cX10_lineAt 41 = .ok (.iconst 0, 1) := by decide +kernel
theorem dX10_lineAt_42 : decode cX10_lineAt 42 = .ok (.istore 4, 2) := by decide +kernel
theorem dX10_lineAt_44 : decode cX10_lineAt 44 = .ok (.iconst 0, 1) := by decide +kernel
theorem dX10_lineAt_45 : decode cX10_lineAt 45 = .ok (.istore 5, 2) := by decide +kernel
theorem dX10_lineAt_47 : decode cX10_lineAt 47 = .ok (.iload 5, 2) := by decide +kernel
theorem dX10_lineAt_49 : decode cX10_lineAt 49 = .ok (.aload_n 0, 1) := by decide +kernel
theorem dX10_lineAt_50 : decode cX10_lineAt 50 = .ok (.getfield 117, 3) := by decide +kernel
theorem dX10_lineAt_53 : decode cX10_lineAt 53 = .ok (.if_icmp .ge 29, 3) := by decide +kernel
theorem dX10_lineAt_56 : decode cX10_lineAt 56 = .ok (.iload 4, 2) := by decide +kernel
theorem dX10_lineAt_58 : decode cX10_lineAt 58 = .ok (.aload_n 0, 1) := by decide +kernel
theorem dX10_lineAt_59 : decode cX10_lineAt 59 = .ok (.iload 5, 2) := by decide +kernel
theorem dX10_lineAt_61 : decode cX10_lineAt 61 = .ok (.invokevirtual 218, 3) := by decide +kernel
theorem dX10_lineAt_64 : decode cX10_lineAt 64 = .ok (.iload_n 3, 1) := by decide +kernel
theorem dX10_lineAt_65 : decode cX10_lineAt 65 = .ok (.if_icmp .lt 7, 3) := by decide +kernel
theorem dX10_lineAt_68 : decode cX10_lineAt 68 = .ok (.iconst 1, 1) := by decide +kernel
theorem dX10_lineAt_69 : decode cX10_lineAt 69 = .ok (.goto 4, 3) := by decide +kernel
theorem dX10_lineAt_72 : decode cX10_lineAt 72 = .ok (.iconst 0, 1) := by decide +kernel
theorem dX10_lineAt_73 : decode cX10_lineAt 73 = .ok (.iadd, 1) := by decide +kernel
theorem dX10_lineAt_74 : decode cX10_lineAt 74 = .ok (.istore 4, 2) := by decide +kernel
theorem dX10_lineAt_76 : decode cX10_lineAt 76 = .ok (.iinc 5 1, 3) := by decide +kernel
theorem dX10_lineAt_79 : decode cX10_lineAt 79 = .ok (.goto (-32), 3) := by decide +kernel
theorem dX10_lineAt_82 : decode cX10_lineAt 82 = .ok (.bipush 100, 2) := by decide +kernel
theorem dX10_lineAt_84 : decode cX10_lineAt 84 = .ok (.iload 4, 2) := by decide +kernel
theorem dX10_lineAt_86 : decode cX10_lineAt 86 = .ok (.imul, 1) := by decide +kernel
theorem dX10_lineAt_87 : decode cX10_lineAt 87 = .ok (.iload_n 1, 1) := by decide +kernel
theorem dX10_lineAt_88 : decode cX10_lineAt 88 = .ok (.iload_n 2, 1) := by decide +kernel
theorem dX10_lineAt_89 : decode cX10_lineAt 89 = .ok (.imul, 1) := by decide +kernel
theorem dX10_lineAt_90 : decode cX10_lineAt 90 = .ok (.if_icmp .gt 5, 3) := by decide +kernel
theorem dX10_lineAt_93 : decode cX10_lineAt 93 = .ok (.iload_n 3, 1) := by decide +kernel
theorem dX10_lineAt_94 : decode cX10_lineAt 94 = .ok (.ireturn, 1) := by decide +kernel
theorem dX10_lineAt_95 : decode cX10_lineAt 95 = .ok (.iinc 3 1, 3) := by decide +kernel
theorem dX10_lineAt_98 : decode cX10_lineAt 98 = .ok (.goto (-61), 3) := by decide +kernel
theorem dX10_lineAt_101 : decode cX10_lineAt 101 = .ok (.iconst 0, 1) := by decide +kernel
theorem dX10_lineAt_102 : decode cX10_lineAt 102 = .ok (.ireturn, 1) := by decide +kernel
set_option maxRecDepth 20000 in
theorem ggX10_lineOf_X10_in : GoodIn wsX10_lineOf wsX10_in := goodIn_r _ [4] (by decide +kernel) (by decide +kernel)
set_option maxRecDepth 20000 in
theorem gX10_lineOf_X10_in : GoodIn wsX10_lineOf (va_wsS RX10 120 yX10_in wsX10_in) := goodIn_app (goodIn_of _ (by decide +kernel)) ggX10_lineOf_X10_in
set_option maxRecDepth 20000 in
theorem ggX10_lineOf_X10_asked : GoodIn wsX10_lineOf wsX10_asked := goodIn_r _ [8, 9, 85, 86, 87, 88, 89, 90, 91, 92, 93, 94, 95, 96, 97, 98, 99, 100, 101, 102, 103, 104, 105, 106, 107, 108, 109, 110, 111, 112, 113, 114, 115, 116, 117, 118, 119, 120, 121, 122, 123, 124, 125] (by decide +kernel) (by decide +kernel)
set_option maxRecDepth 20000 in
theorem gX10_lineOf_X10_asked : GoodIn wsX10_lineOf (wsV RX10 145 RX10 yX10_asked wsX10_asked) := goodIn_app (goodIn_of _ (by decide +kernel)) ggX10_lineOf_X10_asked
set_option maxRecDepth 20000 in
theorem ggX10_lineOf_X10_lineAt : GoodIn wsX10_lineOf wsX10_lineAt := goodIn_r _ [13, 14, 15, 16, 17, 3, 18, 19, 20, 21, 22, 23, 24, 25, 26, 27, 28, 29, 30, 31, 32, 33, 34, 35, 36, 37, 38, 39, 40, 41, 42, 43, 44, 45, 46, 47, 48, 49, 50, 51, 52, 53, 54, 55, 56, 57, 58, 59, 60, 61, 62, 63, 64, 65, 66, 67, 68, 69, 70, 71, 72, 73, 74, 75, 1, 2, 4, 76, 77, 78, 79, 80, 81, 82, 83, 84, 85, 86, 87, 88, 89, 90, 91, 92, 93, 94, 95, 96, 97, 98, 99, 100, 101, 102, 103, 104, 105, 106, 107, 108, 109, 110, 111, 112, 113, 114, 115, 116, 117, 118, 119, 120, 121, 122, 123, 124, 125] (by decide +kernel) (by decide +kernel)
set_option maxRecDepth 20000 in
theorem gX10_lineOf_X10_lineAt : GoodIn wsX10_lineOf (wsV RX10 228 RX10 yX10_lineAt wsX10_lineAt) := goodIn_app (goodIn_of _ (by decide +kernel)) ggX10_lineOf_X10_lineAt
theorem dX10_lineOf_0 : decode cX10_lineOf 0 = .ok (.aload_n 0, 1) := by decide +kernel
theorem dX10_lineOf_1 : decode cX10_lineOf 1 = .ok (.iload_n 1, 1) := by decide +kernel
theorem dX10_lineOf_2 : decode cX10_lineOf 2 = .ok (.iconst 0, 1) := by decide +kernel
theorem dX10_lineOf_3 : decode cX10_lineOf 3 = .ok (.bipush 100, 2) := by decide +kernel
theorem dX10_lineOf_5 : decode cX10_lineOf 5 = .ok (.invokestatic 120, 3) := by decide +kernel
theorem dX10_lineOf_8 : decode cX10_lineOf 8 = .ok (.invokevirtual 145, 3) := by decide +kernel
theorem dX10_lineOf_11 : decode cX10_lineOf 11 = .ok (.ifCond .eq 11, 3) := by decide +kernel
theorem dX10_lineOf_14 : decode cX10_lineOf 14 = .ok (.aload_n 0, 1) := by decide +kernel
theorem dX10_lineOf_15 : decode cX10_lineOf 15 = .ok (.iload_n 1, 1) := by decide +kernel
theorem dX10_lineOf_16 : decode cX10_lineOf 16 = .ok (.invokevirtual 228, 3) := by decide +kernel
theorem dX10_lineOf_19 : decode cX10_lineOf 19 = .ok (.goto 4, 3) := by decide +kernel
theorem dX10_lineOf_22 : decode cX10_lineOf 22 = .ok (.iconst 0, 1) := by decide +kernel
theorem dX10_lineOf_23 : decode cX10_lineOf 23 = .ok (.ireturn, 1) := by decide +kernel
set_option maxRecDepth 20000 in
theorem ggX10_lineAnew_X10_in : GoodIn wsX10_lineAnew wsX10_in := goodIn_r _ [4] (by decide +kernel) (by decide +kernel)
set_option maxRecDepth 20000 in
theorem gX10_lineAnew_X10_in : GoodIn wsX10_lineAnew (va_wsS RX10 120 yX10_in wsX10_in) := goodIn_app (goodIn_of _ (by decide +kernel)) ggX10_lineAnew_X10_in
set_option maxRecDepth 20000 in
theorem ggX10_lineAnew_X10_asked : GoodIn wsX10_lineAnew wsX10_asked := goodIn_r _ [8, 9, 85, 86, 87, 88, 89, 90, 91, 92, 93, 94, 95, 96, 97, 98, 99, 100, 101, 102, 103, 104, 105, 106, 107, 108, 109, 110, 111, 112, 113, 114, 115, 116, 117, 118, 119, 120, 121, 122, 123, 124, 125] (by decide +kernel) (by decide +kernel)
set_option maxRecDepth 20000 in
theorem gX10_lineAnew_X10_asked : GoodIn wsX10_lineAnew (wsV RX10 145 RX10 yX10_asked wsX10_asked) := goodIn_app (goodIn_of _ (by decide +kernel)) ggX10_lineAnew_X10_asked
set_option maxRecDepth 20000 in
theorem ggX10_lineAnew_X10_lineAt : GoodIn wsX10_lineAnew wsX10_lineAt := goodIn_r _ [13, 14, 15, 16, 17, 3, 18, 19, 20, 21, 22, 23, 24, 25, 26, 27, 28, 29, 30, 31, 32, 33, 34, 35, 36, 37, 38, 39, 40, 41, 42, 43, 44, 45, 46, 47, 48, 49, 50, 51, 52, 53, 54, 55, 56, 57, 58, 59, 60, 61, 62, 63, 64, 65, 66, 67, 68, 69, 70, 71, 72, 73, 74, 75, 1, 2, 4, 76, 77, 78, 79, 80, 81, 82, 83, 84, 85, 86, 87, 88, 89, 90, 91, 92, 93, 94, 95, 96, 97, 98, 99, 100, 101, 102, 103, 104, 105, 106, 107, 108, 109, 110, 111, 112, 113, 114, 115, 116, 117, 118, 119, 120, 121, 122, 123, 124, 125] (by decide +kernel) (by decide +kernel)
set_option maxRecDepth 20000 in
theorem gX10_lineAnew_X10_lineAt : GoodIn wsX10_lineAnew (wsV RX10 228 RX10 yX10_lineAt wsX10_lineAt) := goodIn_app (goodIn_of _ (by decide +kernel)) ggX10_lineAnew_X10_lineAt
theorem dX10_lineAnew_0 : decode cX10_lineAnew 0 = .ok (.aload_n 0, 1) := by decide +kernel
theorem dX10_lineAnew_1 : decode cX10_lineAnew 1 = .ok (.iload_n 1, 1) := by decide +kernel
theorem dX10_lineAnew_2 : decode cX10_lineAnew 2 = .ok (.iconst 0, 1) := by decide +kernel
theorem dX10_lineAnew_3 : decode cX10_lineAnew 3 = .ok (.bipush 100, 2) := by decide +kernel
theorem dX10_lineAnew_5 : decode cX10_lineAnew 5 = .ok (.invokestatic 120, 3) := by decide +kernel
theorem dX10_lineAnew_8 : decode cX10_lineAnew 8 = .ok (.invokevirtual 145, 3) := by decide +kernel
theorem dX10_lineAnew_11 : decode cX10_lineAnew 11 = .ok (.ifCond .eq 11, 3) := by decide +kernel
theorem dX10_lineAnew_14 : decode cX10_lineAnew 14 = .ok (.aload_n 0, 1) := by decide +kernel
theorem dX10_lineAnew_15 : decode cX10_lineAnew 15 = .ok (.iload_n 1, 1) := by decide +kernel
theorem dX10_lineAnew_16 : decode cX10_lineAnew 16 = .ok (.invokevirtual 228, 3) := by decide +kernel
theorem dX10_lineAnew_19 : decode cX10_lineAnew 19 = .ok (.goto 4, 3) := by decide +kernel
theorem dX10_lineAnew_22 : decode cX10_lineAnew 22 = .ok (.iconst 0, 1) := by decide +kernel
theorem dX10_lineAnew_23 : decode cX10_lineAnew 23 = .ok (.ireturn, 1) := by decide +kernel
set_option maxRecDepth 20000 in
theorem ggX10_ofReader_X10_isReader : GoodIn wsX10_ofReader wsX10_isReader := goodIn_r _ [10, 11, 12, 13, 9, 14, 31, 32, 33, 34, 35, 36, 37, 38, 39, 40, 41, 42, 43, 44, 45, 46, 47, 48, 49, 50, 51, 52, 53, 54, 55, 56, 57, 58, 59, 60, 61, 62, 63, 64, 65, 66, 67, 68, 69, 70, 71] (by decide +kernel) (by decide +kernel)
set_option maxRecDepth 20000 in
theorem gX10_ofReader_X10_isReader : GoodIn wsX10_ofReader (wsV RX10 199 RX10 yX10_isReader wsX10_isReader) := goodIn_app (goodIn_of _ (by decide +kernel)) ggX10_ofReader_X10_isReader
set_option maxRecDepth 20000 in
theorem ggX10_ofReader_X10_in : GoodIn wsX10_ofReader wsX10_in := goodIn_r _ [14] (by decide +kernel) (by decide +kernel)
set_option maxRecDepth 20000 in
theorem gX10_ofReader_X10_in : GoodIn wsX10_ofReader (va_wsS RX10 120 yX10_in wsX10_in) := goodIn_app (goodIn_of _ (by decide +kernel)) ggX10_ofReader_X10_in
set_option maxRecDepth 20000 in
theorem ggX10_ofReader_X10_asked_ : GoodIn wsX10_ofReader wsX10_asked_ := goodIn_r _ [18, 19, 31, 32, 33, 34, 35, 36, 37, 38, 39, 40, 41, 42, 43, 44, 45, 46, 47, 48, 49, 50, 51, 52, 53, 54, 55, 56, 57, 58, 59, 60, 61, 62, 63, 64, 65, 66, 67, 68, 69, 70, 71] (by decide +kernel) (by decide +kernel)
set_option maxRecDepth 20000 in
theorem gX10_ofReader_X10_asked_ : GoodIn wsX10_ofReader (wsV RX10 127 RX10 yX10_asked_ wsX10_asked_) := goodIn_app (goodIn_of _ (by decide +kernel)) ggX10_ofReader_X10_asked_
set_option maxRecDepth 20000 in
theorem ggX10_ofReader_X10_handed : GoodIn wsX10_ofReader wsX10_handed := goodIn_r _ [23, 24, 25, 31, 32, 33, 34, 35, 36, 37, 38, 39, 40, 41, 42, 43, 44, 45, 46, 47, 48, 49, 50, 51, 52, 53, 54, 55, 56, 57, 58, 59, 60, 61, 62, 63, 64, 65, 66, 67, 68, 69, 70, 71] (by decide +kernel) (by decide +kernel)
set_option maxRecDepth 20000 in
theorem gX10_ofReader_X10_handed : GoodIn wsX10_ofReader (wsV RX10 206 RX10 yX10_handed wsX10_handed) := goodIn_app (goodIn_of _ (by decide +kernel)) ggX10_ofReader_X10_handed
set_option maxRecDepth 20000 in
theorem ggX10_ofReader_X10_voids : GoodIn wsX10_ofReader wsX10_voids := goodIn_r _ [29, 1, 2, 30, 31, 32, 33, 34, 35, 36, 37, 38, 39, 40, 41, 42, 43, 44, 45, 46, 47, 48, 49, 50, 51, 52, 53, 54, 55, 56, 57, 58, 59, 60, 61, 62, 63, 64, 65, 66, 67, 68, 69, 70, 71] (by decide +kernel) (by decide +kernel)
set_option maxRecDepth 20000 in
theorem gX10_ofReader_X10_voids : GoodIn wsX10_ofReader (wsV RX10 209 RX10 yX10_voids wsX10_voids) := goodIn_app (goodIn_of _ (by decide +kernel)) ggX10_ofReader_X10_voids
theorem dX10_ofReader_0 : decode cX10_ofReader 0 = .ok (.aload_n 0, 1) := by decide +kernel
theorem dX10_ofReader_1 : decode cX10_ofReader 1 = .ok (.aload_n 0, 1) := by decide +kernel
theorem dX10_ofReader_2 : decode cX10_ofReader 2 = .ok (.iload_n 1, 1) := by decide +kernel
theorem dX10_ofReader_3 : decode cX10_ofReader 3 = .ok (.invokevirtual 199, 3) := by decide +kernel
theorem dX10_ofReader_6 : decode cX10_ofReader 6 = .ok (.iload_n 2, 1) := by decide +kernel
theorem dX10_ofReader_7 : decode cX10_ofReader 7 = .ok (.iconst 0, 1) := by decide +kernel
theorem dX10_ofReader_8 : decode cX10_ofReader 8 = .ok (.iconst 5, 1) := by decide +kernel
theorem dX10_ofReader_9 : decode cX10_ofReader 9 = .ok (.invokestatic 120, 3) := by decide +kernel
theorem dX10_ofReader_12 : decode cX10_ofReader 12 = .ok (.invokevirtual 127, 3) := by decide +kernel
theorem dX10_ofReader_15 : decode cX10_ofReader 15 = .ok (.ifCond .ne 5, 3) := by decide +kernel
theorem dX10_ofReader_18 : decode cX10_ofReader 18 = .ok (.iconst 0, 1) := by decide +kernel
theorem dX10_ofReader_19 : decode cX10_ofReader 19 = .ok (.ireturn, 1) := by decide +kernel
theorem dX10_ofReader_20 : decode cX10_ofReader 20 = .ok (.iconst 0, 1) := by decide +kernel
theorem dX10_ofReader_21 : decode cX10_ofReader 21 = .ok (.istore_n 3, 1) := by decide +kernel
theorem dX10_ofReader_22 : decode cX10_ofReader 22 = .ok (.iconst 0, 1) := by decide +kernel
theorem dX10_ofReader_23 : decode cX10_ofReader 23 = .ok (.istore 4, 2) := by decide +kernel
theorem dX10_ofReader_25 : decode cX10_ofReader 25 = .ok (.iload 4, 2) := by decide +kernel
theorem dX10_ofReader_27 : decode cX10_ofReader 27 = .ok (.aload_n 0, 1) := by decide +kernel
theorem dX10_ofReader_28 : decode cX10_ofReader 28 = .ok (.getfield 158, 3) := by decide +kernel
theorem dX10_ofReader_31 : decode cX10_ofReader 31 = .ok (.if_icmp .ge 28, 3) := by decide +kernel
theorem dX10_ofReader_34 : decode cX10_ofReader 34 = .ok (.iload_n 3, 1) := by decide +kernel
theorem dX10_ofReader_35 : decode cX10_ofReader 35 = .ok (.aload_n 0, 1) := by decide +kernel
theorem dX10_ofReader_36 : decode cX10_ofReader 36 = .ok (.getfield 87, 3) := by decide +kernel
theorem dX10_ofReader_39 : decode cX10_ofReader 39 = .ok (.iload 4, 2) := by decide +kernel
theorem dX10_ofReader_41 : decode cX10_ofReader 41 = .ok (.iaload, 1) := by decide +kernel
theorem dX10_ofReader_42 : decode cX10_ofReader 42 = .ok (.iload_n 1, 1) := by decide +kernel
theorem dX10_ofReader_43 : decode cX10_ofReader 43 = .ok (.if_icmp .ne 7, 3) := by decide +kernel
theorem dX10_ofReader_46 : decode cX10_ofReader 46 = .ok (.iconst 1, 1) := by decide +kernel
theorem dX10_ofReader_47 : decode cX10_ofReader 47 = .ok (.goto 4, 3) := by decide +kernel
theorem dX10_ofReader_50 : decode cX10_ofReader 50 = .ok (.iconst 0, 1) := by decide +kernel
theorem dX10_ofReader_51 : decode cX10_ofReader 51 = .ok (.iadd, 1) := by decide +kernel
theorem dX10_ofReader_52 : decode cX10_ofReader 52 = .ok (.istore_n 3, 1) := by decide +kernel
theorem dX10_ofReader_53 : decode cX10_ofReader 53 = .ok (.iinc 4 1, 3) := by decide +kernel
theorem dX10_ofReader_56 : decode cX10_ofReader 56 = .ok (.goto (-31), 3) := by decide +kernel
theorem dX10_ofReader_59 : decode cX10_ofReader 59 = .ok (.iconst 0, 1) := by decide +kernel
theorem dX10_ofReader_60 : decode cX10_ofReader 60 = .ok (.istore 4, 2) := by decide +kernel
theorem dX10_ofReader_62 : decode cX10_ofReader 62 = .ok (.iconst 0, 1) := by decide +kernel
theorem dX10_ofReader_63 : decode cX10_ofReader 63 = .ok (.istore 5, 2) := by decide +kernel
theorem dX10_ofReader_65 : decode cX10_ofReader 65 = .ok (.iload 5, 2) := by decide +kernel
theorem dX10_ofReader_67 : decode cX10_ofReader 67 = .ok (.bipush 8, 2) := by decide +kernel
theorem dX10_ofReader_69 : decode cX10_ofReader 69 = .ok (.if_icmp .ge 25, 3) := by decide +kernel
theorem dX10_ofReader_72 : decode cX10_ofReader 72 = .ok (.iload 4, 2) := by decide +kernel
theorem dX10_ofReader_74 : decode cX10_ofReader 74 = .ok (.aload_n 0, 1) := by decide +kernel
theorem dX10_ofReader_75 : decode cX10_ofReader 75 = .ok (.getfield 75, 3) := by decide +kernel
theorem dX10_ofReader_78 : decode cX10_ofReader 78 = .ok (.iload_n 1, 1) := by decide +kernel
theorem dX10_ofReader_79 : decode cX10_ofReader 79 = .ok (.iaload, 1) := by decide +kernel
theorem dX10_ofReader_80 : decode cX10_ofReader 80 = .ok (.iload 5, 2) := by decide +kernel
theorem dX10_ofReader_82 : decode cX10_ofReader 82 = .ok (.ishr, 1) := by decide +kernel
theorem dX10_ofReader_83 : decode cX10_ofReader 83 = .ok (.iconst 1, 1) := by decide +kernel
theorem dX10_ofReader_84 : decode cX10_ofReader 84 = .ok (.iand, 1) := by decide +kernel
theorem dX10_ofReader_85 : decode cX10_ofReader 85 = .ok (.iadd, 1) := by decide +kernel
theorem dX10_ofReader_86 : decode cX10_ofReader 86 = .ok (.istore 4, 2) := by decide +kernel
theorem dX10_ofReader_88 : decode cX10_ofReader 88 = .ok (.iinc 5 1, 3) := by decide +kernel
theorem dX10_ofReader_91 : decode cX10_ofReader 91 = .ok (.goto (-26), 3) := by decide +kernel
theorem dX10_ofReader_94 : decode cX10_ofReader 94 = .ok (.iload_n 2, 1) := by decide +kernel
theorem dX10_ofReader_95 : decode cX10_ofReader 95 = .ok (.ifCond .ne 20, 3) := by decide +kernel
theorem dX10_ofReader_98 : decode cX10_ofReader 98 = .ok (.aload_n 0, 1) := by decide +kernel
theorem dX10_ofReader_99 : decode cX10_ofReader 99 = .ok (.getfield 60, 3) := by decide +kernel
theorem dX10_ofReader_102 : decode cX10_ofReader 102 = .ok (.iload_n 1, 1) := by decide +kernel
theorem dX10_ofReader_103 : decode cX10_ofReader 103 = .ok (.baload, 1) := by decide +kernel
theorem dX10_ofReader_104 : decode cX10_ofReader 104 = .ok (.ifCond .eq 7, 3) := by decide +kernel
theorem dX10_ofReader_107 : decode cX10_ofReader 107 = .ok (.iconst 1, 1) := by decide +kernel
theorem dX10_ofReader_108 : decode cX10_ofReader 108 = .ok (.goto 58, 3) := by decide +kernel
theorem dX10_ofReader_111 : decode cX10_ofReader 111 = .ok (.iconst 0, 1) := by decide +kernel
theorem dX10_ofReader_112 : decode cX10_ofReader 112 = .ok (.goto 54, 3) := by decide +kernel
theorem dX10_ofReader_115 : decode cX10_ofReader 115 = .ok (.iload_n 2, 1) := by decide +kernel
theorem dX10_ofReader_116 : decode cX10_ofReader 116 = .ok (.iconst 1, 1) := by decide +kernel
theorem dX10_ofReader_117 : decode cX10_ofReader 117 = .ok (.if_icmp .ne 11, 3) := by decide +kernel
theorem dX10_ofReader_120 : decode cX10_ofReader 120 = .ok (.aload_n 0, 1) := by decide +kernel
theorem dX10_ofReader_121 : decode cX10_ofReader 121 = .ok (.iload_n 1, 1) := by decide +kernel
theorem dX10_ofReader_122 : decode cX10_ofReader 122 = .ok (.invokevirtual 206, 3) := by decide +kernel
theorem dX10_ofReader_125 : decode cX10_ofReader 125 = .ok (.goto 41, 3) := by decide +kernel
theorem dX10_ofReader_128 : decode cX10_ofReader 128 = .ok (.iload_n 2, 1) := by decide +kernel
theorem dX10_ofReader_129 : decode cX10_ofReader 129 = .ok (.iconst 2, 1) := by decide +kernel
theorem dX10_ofReader_130 : decode cX10_ofReader 130 = .ok (.if_icmp .ne 7, 3) := by decide +kernel
theorem dX10_ofReader_133 : decode cX10_ofReader 133 = .ok (.iload_n 3, 1) := by decide +kernel
theorem dX10_ofReader_134 : decode cX10_ofReader 134 = .ok (.goto 32, 3) := by decide +kernel
theorem dX10_ofReader_137 : decode cX10_ofReader 137 = .ok (.iload_n 2, 1) := by decide +kernel
theorem dX10_ofReader_138 : decode cX10_ofReader 138 = .ok (.iconst 3, 1) := by decide +kernel
theorem dX10_ofReader_139 : decode cX10_ofReader 139 = .ok (.if_icmp .ne 11, 3) := by decide +kernel
theorem dX10_ofReader_142 : decode cX10_ofReader 142 = .ok (.aload_n 0, 1) := by decide +kernel
theorem dX10_ofReader_143 : decode cX10_ofReader 143 = .ok (.iload_n 1, 1) := by decide +kernel
theorem dX10_ofReader_144 : decode cX10_ofReader 144 = .ok (.invokevirtual 209, 3) := by decide +kernel
theorem dX10_ofReader_147 : decode cX10_ofReader 147 = .ok (.goto 19, 3) := by decide +kernel
theorem dX10_ofReader_150 : decode cX10_ofReader 150 = .ok (.iload_n 2, 1) := by decide +kernel
theorem dX10_ofReader_151 : decode cX10_ofReader 151 = .ok (.iconst 4, 1) := by decide +kernel
theorem dX10_ofReader_152 : decode cX10_ofReader 152 = .ok (.if_icmp .ne 12, 3) := by decide +kernel
theorem dX10_ofReader_155 : decode cX10_ofReader 155 = .ok (.aload_n 0, 1) := by decide +kernel
theorem dX10_ofReader_156 : decode cX10_ofReader 156 = .ok (.getfield 69, 3) := by decide +kernel
theorem dX10_ofReader_159 : decode cX10_ofReader 159 = .ok (.iload_n 1, 1) := by decide +kernel
theorem dX10_ofReader_160 : decode cX10_ofReader 160 = .ok (.iaload, 1) := by decide +kernel
theorem dX10_ofReader_161 : decode cX10_ofReader 161 = .ok (.goto 5, 3) := by decide +kernel
theorem dX10_ofReader_164 : decode cX10_ofReader 164 = .ok (.iload 4, 2) := by decide +kernel
theorem dX10_ofReader_166 : decode cX10_ofReader 166 = .ok (.ireturn, 1) := by decide +kernel
set_option maxRecDepth 20000 in
theorem ggX10_wanted_X10_wants : GoodIn wsX10_wanted wsX10_wants := goodIn_r _ [7, 8, 9, 10, 11, 6, 12, 13, 14, 15, 16, 17, 18, 19, 20, 21, 22, 23, 24, 25, 26, 27, 28, 29, 30, 31, 32, 33, 34, 35, 36, 37, 38, 39, 40, 41, 42, 43, 44, 45, 46, 47, 48, 49, 50, 51, 52, 53, 54, 55, 56, 57, 58, 59, 60, 61, 62, 63, 64, 65, 66, 67, 68, 69, 70, 71, 72, 73, 74, 75, 76, 77, 78, 79, 80, 81, 82, 83, 84, 85, 86, 87, 88, 89, 90, 91, 92, 93, 94, 95, 96, 97, 98, 99, 100, 101, 102, 103, 104, 105, 106, 107, 108] (by decide +kernel) (by decide +kernel)
set_option maxRecDepth 20000 in
theorem gX10_wanted_X10_wants : GoodIn wsX10_wanted (wsV RX10 193 RX10 yX10_wants wsX10_wants) := goodIn_app (goodIn_of _ (by decide +kernel)) ggX10_wanted_X10_wants
theorem dX10_wanted_0 : decode cX10_wanted 0 = .ok (.aload_n 0, 1) := by decide +kernel
theorem dX10_wanted_1 : decode cX10_wanted 1 = .ok (.iconst 0, 1) := by decide +kernel
theorem dX10_wanted_2 : decode cX10_wanted 2 = .ok (.putfield 114, 3) := by decide +kernel
theorem dX10_wanted_5 : decode cX10_wanted 5 = .ok (.iconst 0, 1) := by decide +kernel
theorem dX10_wanted_6 : decode cX10_wanted 6 = .ok (.istore_n 1, 1) := by decide +kernel
theorem dX10_wanted_7 : decode cX10_wanted 7 = .ok (.iconst 0, 1) := by decide +kernel
theorem dX10_wanted_8 : decode cX10_wanted 8 = .ok (.istore_n 2, 1) := by decide +kernel
theorem dX10_wanted_9 : decode cX10_wanted 9 = .ok (.iload_n 2, 1) := by decide +kernel
theorem dX10_wanted_10 : decode cX10_wanted 10 = .ok (.iconst 4, 1) := by decide +kernel
theorem dX10_wanted_11 : decode cX10_wanted 11 = .ok (.aload_n 0, 1) := by decide +kernel
theorem dX10_wanted_12 : decode cX10_wanted 12 = .ok (.getfield 117, 3) := by decide +kernel
theorem dX10_wanted_15 : decode cX10_wanted 15 = .ok (.imul, 1) := by decide +kernel
theorem dX10_wanted_16 : decode cX10_wanted 16 = .ok (.if_icmp .ge 17, 3) := by decide +kernel
theorem dX10_wanted_19 : decode cX10_wanted 19 = .ok (.iload_n 1, 1) := by decide +kernel
theorem dX10_wanted_20 : decode cX10_wanted 20 = .ok (.aload_n 0, 1) := by decide +kernel
theorem dX10_wanted_21 : decode cX10_wanted 21 = .ok (.iload_n 2, 1) := by decide +kernel
theorem dX10_wanted_22 : decode cX10_wanted 22 = .ok (.invokevirtual 193, 3) := by decide +kernel
theorem dX10_wanted_25 : decode cX10_wanted 25 = .ok (.iadd, 1) := by decide +kernel
theorem dX10_wanted_26 : decode cX10_wanted 26 = .ok (.istore_n 1, 1) := by decide +kernel
theorem dX10_wanted_27 : decode cX10_wanted 27 = .ok (.iinc 2 1, 3) := by decide +kernel
theorem dX10_wanted_30 : decode cX10_wanted 30 = .ok (.goto (-21), 3) := by decide +kernel
theorem dX10_wanted_33 : decode cX10_wanted 33 = .ok (.iload_n 1, 1) := by decide +kernel
theorem dX10_wanted_34 : decode cX10_wanted 34 = .ok (.ireturn, 1) := by decide +kernel
theorem dJ6_bitCount_0f7a4_0 : decode cJ6_bitCount_0f7a4 0 = .ok (.iload_n 0, 1) := by decide +kernel
theorem dJ6_bitCount_0f7a4_1 : decode cJ6_bitCount_0f7a4 1 = .ok (.iload_n 0, 1) := by decide +kernel
theorem dJ6_bitCount_0f7a4_2 : decode cJ6_bitCount_0f7a4 2 = .ok (.iconst 1, 1) := by decide +kernel
theorem dJ6_bitCount_0f7a4_3 : decode cJ6_bitCount_0f7a4 3 = .ok (.iushr, 1) := by decide +kernel
theorem dJ6_bitCount_0f7a4_4 : decode cJ6_bitCount_0f7a4 4 = .ok (.ldc_w 265, 3) := by decide +kernel
theorem dJ6_bitCount_0f7a4_7 : decode cJ6_bitCount_0f7a4 7 = .ok (.iand, 1) := by decide +kernel
theorem dJ6_bitCount_0f7a4_8 : decode cJ6_bitCount_0f7a4 8 = .ok (.isub, 1) := by decide +kernel
theorem dJ6_bitCount_0f7a4_9 : decode cJ6_bitCount_0f7a4 9 = .ok (.istore_n 0, 1) := by decide +kernel
theorem dJ6_bitCount_0f7a4_10 : decode cJ6_bitCount_0f7a4 10 = .ok (.iload_n 0, 1) := by decide +kernel
theorem dJ6_bitCount_0f7a4_11 : decode cJ6_bitCount_0f7a4 11 = .ok (.ldc_w 266, 3) := by decide +kernel
theorem dJ6_bitCount_0f7a4_14 : decode cJ6_bitCount_0f7a4 14 = .ok (.iand, 1) := by decide +kernel
theorem dJ6_bitCount_0f7a4_15 : decode cJ6_bitCount_0f7a4 15 = .ok (.iload_n 0, 1) := by decide +kernel
theorem dJ6_bitCount_0f7a4_16 : decode cJ6_bitCount_0f7a4 16 = .ok (.iconst 2, 1) := by decide +kernel
theorem dJ6_bitCount_0f7a4_17 : decode cJ6_bitCount_0f7a4 17 = .ok (.iushr, 1) := by decide +kernel
theorem dJ6_bitCount_0f7a4_18 : decode cJ6_bitCount_0f7a4 18 = .ok (.ldc_w 266, 3) := by decide +kernel
theorem dJ6_bitCount_0f7a4_21 : decode cJ6_bitCount_0f7a4 21 = .ok (.iand, 1) := by decide +kernel
theorem dJ6_bitCount_0f7a4_22 : decode cJ6_bitCount_0f7a4 22 = .ok (.iadd, 1) := by decide +kernel
theorem dJ6_bitCount_0f7a4_23 : decode cJ6_bitCount_0f7a4 23 = .ok (.istore_n 0, 1) := by decide +kernel
theorem dJ6_bitCount_0f7a4_24 : decode cJ6_bitCount_0f7a4 24 = .ok (.iload_n 0, 1) := by decide +kernel
theorem dJ6_bitCount_0f7a4_25 : decode cJ6_bitCount_0f7a4 25 = .ok (.iload_n 0, 1) := by decide +kernel
theorem dJ6_bitCount_0f7a4_26 : decode cJ6_bitCount_0f7a4 26 = .ok (.iconst 4, 1) := by decide +kernel
theorem dJ6_bitCount_0f7a4_27 : decode cJ6_bitCount_0f7a4 27 = .ok (.iushr, 1) := by decide +kernel
theorem dJ6_bitCount_0f7a4_28 : decode cJ6_bitCount_0f7a4 28 = .ok (.iadd, 1) := by decide +kernel
theorem dJ6_bitCount_0f7a4_29 : decode cJ6_bitCount_0f7a4 29 = .ok (.ldc_w 267, 3) := by decide +kernel
theorem dJ6_bitCount_0f7a4_32 : decode cJ6_bitCount_0f7a4 32 = .ok (.iand, 1) := by decide +kernel
theorem dJ6_bitCount_0f7a4_33 : decode cJ6_bitCount_0f7a4 33 = .ok (.istore_n 0, 1) := by decide +kernel
theorem dJ6_bitCount_0f7a4_34 : decode cJ6_bitCount_0f7a4 34 = .ok (.iload_n 0, 1) := by decide +kernel
theorem dJ6_bitCount_0f7a4_35 : decode cJ6_bitCount_0f7a4 35 = .ok (.iload_n 0, 1) := by decide +kernel
theorem dJ6_bitCount_0f7a4_36 : decode cJ6_bitCount_0f7a4 36 = .ok (.bipush 8, 2) := by decide +kernel
theorem dJ6_bitCount_0f7a4_38 : decode cJ6_bitCount_0f7a4 38 = .ok (.iushr, 1) := by decide +kernel
theorem dJ6_bitCount_0f7a4_39 : decode cJ6_bitCount_0f7a4 39 = .ok (.iadd, 1) := by decide +kernel
theorem dJ6_bitCount_0f7a4_40 : decode cJ6_bitCount_0f7a4 40 = .ok (.istore_n 0, 1) := by decide +kernel
theorem dJ6_bitCount_0f7a4_41 : decode cJ6_bitCount_0f7a4 41 = .ok (.iload_n 0, 1) := by decide +kernel
theorem dJ6_bitCount_0f7a4_42 : decode cJ6_bitCount_0f7a4 42 = .ok (.iload_n 0, 1) := by decide +kernel
theorem dJ6_bitCount_0f7a4_43 : decode cJ6_bitCount_0f7a4 43 = .ok (.bipush 16, 2) := by decide +kernel
theorem dJ6_bitCount_0f7a4_45 : decode cJ6_bitCount_0f7a4 45 = .ok (.iushr, 1) := by decide +kernel
theorem dJ6_bitCount_0f7a4_46 : decode cJ6_bitCount_0f7a4 46 = .ok (.iadd, 1) := by decide +kernel
theorem dJ6_bitCount_0f7a4_47 : decode cJ6_bitCount_0f7a4 47 = .ok (.istore_n 0, 1) := by decide +kernel
theorem dJ6_bitCount_0f7a4_48 : decode cJ6_bitCount_0f7a4 48 = .ok (.iload_n 0, 1) := by decide +kernel
theorem dJ6_bitCount_0f7a4_49 : decode cJ6_bitCount_0f7a4 49 = .ok (.bipush 63, 2) := by decide +kernel
theorem dJ6_bitCount_0f7a4_51 : decode cJ6_bitCount_0f7a4 51 = .ok (.iand, 1) := by decide +kernel
theorem dJ6_bitCount_0f7a4_52 : decode cJ6_bitCount_0f7a4 52 = .ok (.ireturn, 1) := by decide +kernel
theorem dJ9_max_7cf53_0 : decode cJ9_max_7cf53 0 = .ok (.iload_n 0, 1) := by decide +kernel
theorem dJ9_max_7cf53_1 : decode cJ9_max_7cf53 1 = .ok (.iload_n 1, 1) := by decide +kernel
theorem dJ9_max_7cf53_2 : decode cJ9_max_7cf53 2 = .ok (.if_icmp .lt 7, 3) := by decide +kernel
theorem dJ9_max_7cf53_5 : decode cJ9_max_7cf53 5 = .ok (.iload_n 0, 1) := by decide +kernel
theorem dJ9_max_7cf53_6 : decode cJ9_max_7cf53 6 = .ok (.goto 4, 3) := by decide +kernel
theorem dJ9_max_7cf53_9 : decode cJ9_max_7cf53 9 = .ok (.iload_n 1, 1) := by decide +kernel
theorem dJ9_max_7cf53_10 : decode cJ9_max_7cf53 10 = .ok (.ireturn, 1) := by decide +kernel
theorem dJ9_min_7cf53_0 : decode cJ9_min_7cf53 0 = .ok (.iload_n 0, 1) := by decide +kernel
theorem dJ9_min_7cf53_1 : decode cJ9_min_7cf53 1 = .ok (.iload_n 1, 1) := by decide +kernel
theorem dJ9_min_7cf53_2 : decode cJ9_min_7cf53 2 = .ok (.if_icmp .gt 7, 3) := by decide +kernel
theorem dJ9_min_7cf53_5 : decode cJ9_min_7cf53 5 = .ok (.iload_n 0, 1) := by decide +kernel
theorem dJ9_min_7cf53_6 : decode cJ9_min_7cf53 6 = .ok (.goto 4, 3) := by decide +kernel
theorem dJ9_min_7cf53_9 : decode cJ9_min_7cf53 9 = .ok (.iload_n 1, 1) := by decide +kernel
theorem dJ9_min_7cf53_10 : decode cJ9_min_7cf53 10 = .ok (.ireturn, 1) := by decide +kernel
