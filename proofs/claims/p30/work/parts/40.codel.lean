theorem dL_drawn_0 : decode cL_drawn 0 = .ok (.iload_n 1, 1) := by decide +kernel
theorem dL_drawn_1 : decode cL_drawn 1 = .ok (.aload_n 0, 1) := by decide +kernel
theorem dL_drawn_2 : decode cL_drawn 2 = .ok (.arraylength, 1) := by decide +kernel
theorem dL_drawn_3 : decode cL_drawn 3 = .ok (.if_icmp .ge 9, 3) := by decide +kernel
theorem dL_drawn_6 : decode cL_drawn 6 = .ok (.aload_n 0, 1) := by decide +kernel
theorem dL_drawn_7 : decode cL_drawn 7 = .ok (.iload_n 1, 1) := by decide +kernel
theorem dL_drawn_8 : decode cL_drawn 8 = .ok (.iaload, 1) := by decide +kernel
theorem dL_drawn_9 : decode cL_drawn 9 = .ok (.goto 12, 3) := by decide +kernel
theorem dL_drawn_12 : decode cL_drawn 12 = .ok (.sipush 14683, 3) := by decide +kernel
theorem dL_drawn_15 : decode cL_drawn 15 = .ok (.iload_n 1, 1) := by decide +kernel
theorem dL_drawn_16 : decode cL_drawn 16 = .ok (.imul, 1) := by decide +kernel
theorem dL_drawn_17 : decode cL_drawn 17 = .ok (.sipush 11173, 3) := by decide +kernel
theorem dL_drawn_20 : decode cL_drawn 20 = .ok (.iadd, 1) := by decide +kernel
theorem dL_drawn_21 : decode cL_drawn 21 = .ok (.istore_n 2, 1) := by decide +kernel
theorem dL_drawn_22 : decode cL_drawn 22 = .ok (.iload_n 2, 1) := by decide +kernel
theorem dL_drawn_23 : decode cL_drawn 23 = .ok (.ldc 7, 2) := by decide +kernel
theorem dL_drawn_25 : decode cL_drawn 25 = .ok (.iand, 1) := by decide +kernel
theorem dL_drawn_26 : decode cL_drawn 26 = .ok (.ireturn, 1) := by decide +kernel
set_option maxRecDepth 20000 in
theorem ggL_does_X9_type : GoodIn wsL_does wsX9_type := goodIn_ca (goodIn_ca (goodIn_r _ [34, 11, 12, 35, 36, 37, 38, 39, 40, 41, 42, 43, 44, 45, 46, 28, 29, 24, 30, 26, 470, 471, 472, 473, 474, 475, 476, 477, 478, 479, 480, 481, 482, 483, 484, 493, 494, 492] (by decide +kernel) (by decide +kernel)) (goodIn_sub (fun _ h => List.mem_cons_of_mem _ (List.mem_append_left _ (List.mem_append_right _ h))) (by decide +kernel))) (goodIn_sub (fun _ h => List.mem_cons_of_mem _ (List.mem_append_right _ h)) (by decide +kernel))
set_option maxRecDepth 20000 in
theorem gL_does_X9_type : GoodIn wsL_does (wsV RL 14 RX9 yX9_type wsX9_type) := goodIn_app (goodIn_of _ (by decide +kernel)) ggL_does_X9_type
set_option maxRecDepth 20000 in
theorem ggL_does_X9_scheme : GoodIn wsL_does wsX9_scheme := goodIn_ca (goodIn_ca (goodIn_r _ [50, 9, 10, 35, 36, 51, 52, 53, 37, 54, 55, 7, 56, 21, 22, 23, 24, 25, 26, 57, 58, 59, 60, 61, 62, 63, 64, 65, 66, 67, 68, 69, 70, 71, 72, 73, 74, 75, 76, 77, 78, 79, 80, 81, 82, 83, 28, 29, 30, 84, 85, 86, 87, 88, 89, 90, 91, 92, 93, 94, 95, 96, 97, 98, 99, 100, 101, 102, 103, 104, 105, 106, 42, 107, 44, 108, 109, 110, 111, 112, 113, 114, 115, 116, 117, 118, 119, 120, 121, 122, 123, 124, 125, 126, 127, 128, 129, 130, 131, 132, 133, 134, 135, 136, 137, 138, 139, 140, 141, 142, 143, 144, 145, 146, 147, 148, 149, 150, 151, 152, 153, 154, 155, 156, 157, 158, 159, 160, 161, 162, 163, 164, 165, 166, 167, 168, 169, 170, 171, 172, 173, 174, 175, 176, 27, 470, 471, 472, 473, 474, 475, 476, 477, 478, 479, 480, 481, 482, 483, 484, 495, 496, 497, 498, 499, 500, 501, 502, 492, 493, 494, 503, 504, 505, 506, 507, 508, 509, 510, 511, 512, 513, 514, 515, 516, 517, 518, 519, 520] (by decide +kernel) (by decide +kernel)) (goodIn_sub (fun _ h => List.mem_cons_of_mem _ (List.mem_append_left _ (List.mem_append_left _ (List.mem_append_right _ h)))) (by decide +kernel))) (goodIn_sub (fun _ h => List.mem_cons_of_mem _ (List.mem_append_right _ h)) (by decide +kernel))
set_option maxRecDepth 20000 in
theorem gL_does_X9_scheme : GoodIn wsL_does (wsV RL 18 RX9 yX9_scheme wsX9_scheme) := goodIn_app (goodIn_of _ (by decide +kernel)) ggL_does_X9_scheme
set_option maxRecDepth 20000 in
theorem ggL_does_X9_versions : GoodIn wsL_does wsX9_versions := goodIn_ca (goodIn_r _ [408, 9, 10, 51, 52, 54, 55, 7, 56, 21, 22, 23, 24, 25, 26, 470, 471, 472, 473, 474, 475, 476, 477, 478, 479, 480, 481, 482, 483, 484, 495, 496, 497, 498, 499, 500, 501, 502, 492] (by decide +kernel) (by decide +kernel)) (goodIn_sub (fun _ h => List.mem_cons_of_mem _ (List.mem_append_left _ (List.mem_append_left _ (List.mem_append_right _ h)))) (by decide +kernel))
set_option maxRecDepth 20000 in
theorem gL_does_X9_versions : GoodIn wsL_does (wsV RL 39 RX9 yX9_versions wsX9_versions) := goodIn_app (goodIn_of _ (by decide +kernel)) ggL_does_X9_versions
theorem dL_does_0 : decode cL_does 0 = .ok (.iload_n 1, 1) := by decide +kernel
theorem dL_does_1 : decode cL_does 1 = .ok (.ifCond .ne 12, 3) := by decide +kernel
theorem dL_does_4 : decode cL_does 4 = .ok (.aload_n 0, 1) := by decide +kernel
theorem dL_does_5 : decode cL_does 5 = .ok (.iload_n 2, 1) := by decide +kernel
theorem dL_does_6 : decode cL_does 6 = .ok (.iload_n 3, 1) := by decide +kernel
theorem dL_does_7 : decode cL_does 7 = .ok (.invokevirtual 8, 3) := by decide +kernel
theorem dL_does_10 : decode cL_does 10 = .ok (.goto 205, 3) := by decide +kernel
theorem dL_does_13 : decode cL_does 13 = .ok (.iload_n 1, 1) := by decide +kernel
theorem dL_does_14 : decode cL_does 14 = .ok (.iconst 1, 1) := by decide +kernel
theorem dL_does_15 : decode cL_does 15 = .ok (.if_icmp .ne 11, 3) := by decide +kernel
theorem dL_does_18 : decode cL_does 18 = .ok (.aload_n 0, 1) := by decide +kernel
theorem dL_does_19 : decode cL_does 19 = .ok (.iload_n 2, 1) := by decide +kernel
theorem dL_does_20 : decode cL_does 20 = .ok (.invokevirtual 14, 3) := by decide +kernel
theorem dL_does_23 : decode cL_does 23 = .ok (.goto 192, 3) := by decide +kernel
theorem dL_does_26 : decode cL_does 26 = .ok (.iload_n 1, 1) := by decide +kernel
theorem dL_does_27 : decode cL_does 27 = .ok (.iconst 2, 1) := by decide +kernel
theorem dL_does_28 : decode cL_does 28 = .ok (.if_icmp .ne 11, 3) := by decide +kernel
theorem dL_does_31 : decode cL_does 31 = .ok (.aload_n 0, 1) := by decide +kernel
theorem dL_does_32 : decode cL_does 32 = .ok (.iload_n 2, 1) := by decide +kernel
theorem dL_does_33 : decode cL_does 33 = .ok (.invokevirtual 18, 3) := by decide +kernel
theorem dL_does_36 : decode cL_does 36 = .ok (.goto 179, 3) := by decide +kernel
theorem dL_does_39 : decode cL_does 39 = .ok (.iload_n 1, 1) := by decide +kernel
theorem dL_does_40 : decode cL_does 40 = .ok (.iconst 3, 1) := by decide +kernel
theorem dL_does_41 : decode cL_does 41 = .ok (.if_icmp .ne 11, 3) := by decide +kernel
theorem dL_does_44 : decode cL_does 44 = .ok (.aload_n 0, 1) := by decide +kernel
theorem dL_does_45 : decode cL_does 45 = .ok (.iload_n 2, 1) := by decide +kernel
theorem dL_does_46 : decode cL_does 46 = .ok (.invokevirtual 21, 3) := by decide +kernel
theorem dL_does_49 : decode cL_does 49 = .ok (.goto 166, 3) := by decide +kernel
theorem dL_does_52 : decode cL_does 52 = .ok (.iload_n 1, 1) := by decide +kernel
theorem dL_does_53 : decode cL_does 53 = .ok (.iconst 4, 1) := by decide +kernel
theorem dL_does_54 : decode cL_does 54 = .ok (.if_icmp .ne 12, 3) := by decide +kernel
theorem dL_does_57 : decode cL_does 57 = .ok (.aload_n 0, 1) := by decide +kernel
theorem dL_does_58 : decode cL_does 58 = .ok (.iload_n 2, 1) := by decide +kernel
theorem dL_does_59 : decode cL_does 59 = .ok (.iload_n 3, 1) := by decide +kernel
theorem dL_does_60 : decode cL_does 60 = .ok (.invokevirtual 24, 3) := by decide +kernel
theorem dL_does_63 : decode cL_does 63 = .ok (.goto 152, 3) := by decide +kernel
theorem dL_does_66 : decode cL_does 66 = .ok (.iload_n 1, 1) := by decide +kernel
theorem dL_does_67 : decode cL_does 67 = .ok (.iconst 5, 1) := by decide +kernel
theorem dL_does_68 : decode cL_does 68 = .ok (.if_icmp .ne 11, 3) := by decide +kernel
theorem dL_does_71 : decode cL_does 71 = .ok (.aload_n 0, 1) := by decide +kernel
theorem dL_does_72 : decode cL_does 72 = .ok (.iload_n 2, 1) := by decide +kernel
theorem dL_does_73 : decode cL_does 73 = .ok (.invokevirtual 27, 3) := by decide +kernel
theorem dL_does_76 : decode cL_does 76 = .ok (.goto 139, 3) := by decide +kernel
theorem dL_does_79 : decode cL_does 79 = .ok (.iload_n 1, 1) := by decide +kernel
theorem dL_does_80 : decode cL_does 80 = .ok (.bipush 6, 2) := by decide +kernel
theorem dL_does_82 : decode cL_does 82 = .ok (.if_icmp .ne 12, 3) := by decide +kernel
theorem dL_does_85 : decode cL_does 85 = .ok (.aload_n 0, 1) := by decide +kernel
theorem dL_does_86 : decode cL_does 86 = .ok (.iload_n 2, 1) := by decide +kernel
theorem dL_does_87 : decode cL_does 87 = .ok (.iload_n 3, 1) := by decide +kernel
theorem dL_does_88 : decode cL_does 88 = .ok (.invokevirtual 30, 3) := by decide +kernel
theorem dL_does_91 : decode cL_does 91 = .ok (.goto 124, 3) := by decide +kernel
theorem dL_does_94 : decode cL_does 94 = .ok (.iload_n 1, 1) := by decide +kernel
theorem dL_does_95 : decode cL_does 95 = .ok (.bipush 7, 2) := by decide +kernel
theorem dL_does_97 : decode cL_does 97 = .ok (.if_icmp .ne 11, 3) := by decide +kernel
theorem dL_does_100 : decode cL_does 100 = .ok (.aload_n 0, 1) := by decide +kernel
theorem dL_does_101 : decode cL_does 101 = .ok (.iload_n 2, 1) := by decide +kernel
theorem dL_does_102 : decode cL_does 102 = .ok (.invokevirtual 33, 3) := by decide +kernel
theorem dL_does_105 : decode cL_does 105 = .ok (.goto 110, 3) := by decide +kernel
theorem dL_does_108 : decode cL_does 108 = .ok (.iload_n 1, 1) := by decide +kernel
theorem dL_does_109 : decode cL_does 109 = .ok (.bipush 8, 2) := by decide +kernel
theorem dL_does_111 : decode cL_does 111 = .ok (.if_icmp .ne 12, 3) := by decide +kernel
theorem dL_does_114 : decode cL_does 114 = .ok (.aload_n 0, 1) := by decide +kernel
theorem dL_does_115 : decode cL_does 115 = .ok (.iload_n 2, 1) := by decide +kernel
theorem dL_does_116 : decode cL_does 116 = .ok (.iload_n 3, 1) := by decide +kernel
theorem dL_does_117 : decode cL_does 117 = .ok (.invokevirtual 36, 3) := by decide +kernel
theorem dL_does_120 : decode cL_does 120 = .ok (.goto 95, 3) := by decide +kernel
theorem dL_does_123 : decode cL_does 123 = .ok (.iload_n 1, 1) := by decide +kernel
theorem dL_does_124 : decode cL_does 124 = .ok (.bipush 9, 2) := by decide +kernel
theorem dL_does_126 : decode cL_does 126 = .ok (.if_icmp .ne 11, 3) := by decide +kernel
theorem dL_does_129 : decode cL_does 129 = .ok (.aload_n 0, 1) := by decide +kernel
theorem dL_does_130 : decode cL_does 130 = .ok (.iload_n 2, 1) := by decide +kernel
theorem dL_does_131 : decode cL_does 131 = .ok (.invokevirtual 39, 3) := by decide +kernel
theorem dL_does_134 : decode cL_does 134 = .ok (.goto 81, 3) := by decide +kernel
theorem dL_does_137 : decode cL_does 137 = .ok (.iload_n 1, 1) := by decide +kernel
theorem dL_does_138 : decode cL_does 138 = .ok (.bipush 10, 2) := by decide +kernel
theorem dL_does_140 : decode cL_does 140 = .ok (.if_icmp .ne 12, 3) := by decide +kernel
theorem dL_does_143 : decode cL_does 143 = .ok (.aload_n 0, 1) := by decide +kernel
theorem dL_does_144 : decode cL_does 144 = .ok (.iload_n 2, 1) := by decide +kernel
theorem dL_does_145 : decode cL_does 145 = .ok (.iload_n 3, 1) := by decide +kernel
theorem dL_does_146 : decode cL_does 146 = .ok (.invokevirtual 42, 3) := by decide +kernel
theorem dL_does_149 : decode cL_does 149 = .ok (.goto 66, 3) := by decide +kernel
theorem dL_does_152 : decode cL_does 152 = .ok (.iload_n 1, 1) := by decide +kernel
theorem dL_does_153 : decode cL_does 153 = .ok (.bipush 11, 2) := by decide +kernel
theorem dL_does_155 : decode cL_does 155 = .ok (.if_icmp .ne 12, 3) := by decide +kernel
theorem dL_does_158 : decode cL_does 158 = .ok (.aload_n 0, 1) := by decide +kernel
theorem dL_does_159 : decode cL_does 159 = .ok (.iload_n 2, 1) := by decide +kernel
theorem dL_does_160 : decode cL_does 160 = .ok (.iload_n 3, 1) := by decide +kernel
theorem dL_does_161 : decode cL_does 161 = .ok (.invokevirtual 45, 3) := by decide +kernel
theorem dL_does_164 : decode cL_does 164 = .ok (.goto 51, 3) := by decide +kernel
theorem dL_does_167 : decode cL_does 167 = .ok (.iload_n 1, 1) := by decide +kernel
theorem dL_does_168 : decode cL_does 168 = .ok (.bipush 12, 2) := by decide +kernel
theorem dL_does_170 : decode cL_does 170 = .ok (.if_icmp .ne 11, 3) := by decide +kernel
theorem dL_does_173 : decode cL_does 173 = .ok (.aload_n 0, 1) := by decide +kernel
theorem dL_does_174 : decode cL_does 174 = .ok (.iload_n 2, 1) := by decide +kernel
theorem dL_does_175 : decode cL_does 175 = .ok (.invokevirtual 48, 3) := by decide +kernel
theorem dL_does_178 : decode cL_does 178 = .ok (.goto 37, 3) := by decide +kernel
theorem dL_does_181 : decode cL_does 181 = .ok (.iload_n 1, 1) := by decide +kernel
theorem dL_does_182 : decode cL_does 182 = .ok (.bipush 13, 2) := by decide +kernel
theorem dL_does_184 : decode cL_does 184 = .ok (.if_icmp .ne 11, 3) := by decide +kernel
theorem dL_does_187 : decode cL_does 187 = .ok (.aload_n 0, 1) := by decide +kernel
theorem dL_does_188 : decode cL_does 188 = .ok (.iload_n 2, 1) := by decide +kernel
theorem dL_does_189 : decode cL_does 189 = .ok (.invokevirtual 51, 3) := by decide +kernel
theorem dL_does_192 : decode cL_does 192 = .ok (.goto 23, 3) := by decide +kernel
theorem dL_does_195 : decode cL_does 195 = .ok (.iload_n 1, 1) := by decide +kernel
theorem dL_does_196 : decode cL_does 196 = .ok (.bipush 14, 2) := by decide +kernel
theorem dL_does_198 : decode cL_does 198 = .ok (.if_icmp .ne 11, 3) := by decide +kernel
theorem dL_does_201 : decode cL_does 201 = .ok (.aload_n 0, 1) := by decide +kernel
theorem dL_does_202 : decode cL_does 202 = .ok (.iload_n 2, 1) := by decide +kernel
theorem dL_does_203 : decode cL_does 203 = .ok (.invokevirtual 54, 3) := by decide +kernel
theorem dL_does_206 : decode cL_does 206 = .ok (.goto 9, 3) := by decide +kernel
theorem dL_does_209 : decode cL_does 209 = .ok (.aload_n 0, 1) := by decide +kernel
theorem dL_does_210 : decode cL_does 210 = .ok (.iload_n 2, 1) := by decide +kernel
theorem dL_does_211 : decode cL_does 211 = .ok (.iload_n 3, 1) := by decide +kernel
theorem dL_does_212 : decode cL_does 212 = .ok (.invokevirtual 57, 3) := by decide +kernel
theorem dL_does_215 : decode cL_does 215 = .ok (.ireturn, 1) := by decide +kernel
theorem dL_does_216 : decode cL_does 216 = .ok (.astore 4, 2) := by decide +kernel
theorem dL_does_218 : decode cL_does 218 = .ok (.sipush (-5000), 3) := by decide +kernel
theorem dL_does_221 : decode cL_does 221 = .ok (.ireturn, 1) := by decide +kernel
theorem dL_does_222 : decode cL_does 222 = .ok (.astore 4, 2) := by decide +kernel
theorem dL_does_224 : decode cL_does 224 = .ok (.sipush (-5000), 3) := by decide +kernel
theorem dL_does_227 : decode cL_does 227 = .ok (.ireturn, 1) := by decide +kernel
theorem dL_does_228 : decode cL_does 228 = .ok (.astore 4, 2) := by decide +kernel
theorem dL_does_230 : decode cL_does 230 = .ok (.sipush (-5000), 3) := by decide +kernel
theorem dL_does_233 : decode cL_does 233 = .ok (.ireturn, 1) := by decide +kernel
set_option maxRecDepth 20000 in
theorem ggL_markOf_X9_markOf : GoodIn wsL_markOf wsX9_markOf := goodIn_ca (goodIn_ca (goodIn_r _ [7, 8, 9, 10, 11, 12, 13, 14, 6, 15, 16, 17, 18, 19, 20, 21, 22, 23, 24, 25, 26, 27, 28, 29, 30, 31, 32, 33, 34, 35, 36, 37, 38, 39, 40, 41, 42, 43, 44, 45, 46, 47, 48, 49, 50, 51, 52, 53, 54, 55, 56, 57, 58, 59, 60, 61, 62, 63, 64, 65, 66, 67, 68, 69, 70, 71, 72, 73, 74, 75, 76, 77, 78, 79, 80, 81, 82, 83, 84, 85, 86, 87] (by decide +kernel) (by decide +kernel)) (goodIn_sub (fun _ h => List.mem_cons_of_mem _ (List.mem_append_left _ (List.mem_append_right _ h))) (by decide +kernel))) (goodIn_sub (fun _ h => List.mem_cons_of_mem _ (List.mem_append_right _ h)) (by decide +kernel))
set_option maxRecDepth 20000 in
theorem gL_markOf_X9_markOf : GoodIn wsL_markOf (wsV RL 66 RX9 yX9_markOf wsX9_markOf) := goodIn_app (goodIn_of _ (by decide +kernel)) ggL_markOf_X9_markOf
theorem dL_markOf_0 : decode cL_markOf 0 = .ok (.aload_n 0, 1) := by decide +kernel
theorem dL_markOf_1 : decode cL_markOf 1 = .ok (.iload_n 1, 1) := by decide +kernel
theorem dL_markOf_2 : decode cL_markOf 2 = .ok (.iload_n 2, 1) := by decide +kernel
theorem dL_markOf_3 : decode cL_markOf 3 = .ok (.iload_n 3, 1) := by decide +kernel
theorem dL_markOf_4 : decode cL_markOf 4 = .ok (.invokevirtual 66, 3) := by decide +kernel
theorem dL_markOf_7 : decode cL_markOf 7 = .ok (.ireturn, 1) := by decide +kernel
theorem dL_markOf_8 : decode cL_markOf 8 = .ok (.astore 4, 2) := by decide +kernel
theorem dL_markOf_10 : decode cL_markOf 10 = .ok (.sipush (-5000), 3) := by decide +kernel
theorem dL_markOf_13 : decode cL_markOf 13 = .ok (.ireturn, 1) := by decide +kernel
theorem dL_markOf_14 : decode cL_markOf 14 = .ok (.astore 4, 2) := by decide +kernel
theorem dL_markOf_16 : decode cL_markOf 16 = .ok (.sipush (-5000), 3) := by decide +kernel
theorem dL_markOf_19 : decode cL_markOf 19 = .ok (.ireturn, 1) := by decide +kernel
set_option maxRecDepth 20000 in
theorem ggL_written_X9_written : GoodIn wsL_written wsX9_written := goodIn_ca (goodIn_r _ [6, 7, 8, 9, 10, 11, 5, 12, 13, 14, 15, 16, 17, 18, 19, 20, 21, 22, 23, 24, 25, 26, 27, 28, 29, 30, 31, 32, 33, 34, 35, 36, 37, 38, 39, 40, 41, 42, 43, 44, 45, 46, 47, 48, 49, 50, 51, 52, 53, 54] (by decide +kernel) (by decide +kernel)) (goodIn_sub (fun _ h => List.mem_cons_of_mem _ (List.mem_append_right _ h)) (by decide +kernel))
set_option maxRecDepth 20000 in
theorem gL_written_X9_written : GoodIn wsL_written (wsV RL 70 RX9 yX9_written wsX9_written) := goodIn_app (goodIn_of _ (by decide +kernel)) ggL_written_X9_written
theorem dL_written_0 : decode cL_written 0 = .ok (.aload_n 0, 1) := by decide +kernel
theorem dL_written_1 : decode cL_written 1 = .ok (.iload_n 1, 1) := by decide +kernel
theorem dL_written_2 : decode cL_written 2 = .ok (.iload_n 2, 1) := by decide +kernel
theorem dL_written_3 : decode cL_written 3 = .ok (.iload_n 3, 1) := by decide +kernel
theorem dL_written_4 : decode cL_written 4 = .ok (.invokevirtual 70, 3) := by decide +kernel
theorem dL_written_7 : decode cL_written 7 = .ok (.ireturn, 1) := by decide +kernel
theorem dL_written_8 : decode cL_written 8 = .ok (.astore 4, 2) := by decide +kernel
theorem dL_written_10 : decode cL_written 10 = .ok (.sipush (-5000), 3) := by decide +kernel
theorem dL_written_13 : decode cL_written 13 = .ok (.ireturn, 1) := by decide +kernel
theorem dL_signFor_0 : decode cL_signFor 0 = .ok (.iload_n 0, 1) := by decide +kernel
theorem dL_signFor_1 : decode cL_signFor 1 = .ok (.iconst 2, 1) := by decide +kernel
theorem dL_signFor_2 : decode cL_signFor 2 = .ok (.if_icmp .ge 54, 3) := by decide +kernel
theorem dL_signFor_5 : decode cL_signFor 5 = .ok (.iload_n 0, 1) := by decide +kernel
theorem dL_signFor_6 : decode cL_signFor 6 = .ok (.ifCond .ne 23, 3) := by decide +kernel
theorem dL_signFor_9 : decode cL_signFor 9 = .ok (.iload_n 2, 1) := by decide +kernel
theorem dL_signFor_10 : decode cL_signFor 10 = .ok (.bipush 7, 2) := by decide +kernel
theorem dL_signFor_12 : decode cL_signFor 12 = .ok (.irem, 1) := by decide +kernel
theorem dL_signFor_13 : decode cL_signFor 13 = .ok (.ifCond .ne 16, 3) := by decide +kernel
theorem dL_signFor_16 : decode cL_signFor 16 = .ok (.bipush 49, 2) := by decide +kernel
theorem dL_signFor_18 : decode cL_signFor 18 = .ok (.iload_n 2, 1) := by decide +kernel
theorem dL_signFor_19 : decode cL_signFor 19 = .ok (.bipush 7, 2) := by decide +kernel
theorem dL_signFor_21 : decode cL_signFor 21 = .ok (.idiv, 1) := by decide +kernel
theorem dL_signFor_22 : decode cL_signFor 22 = .ok (.bipush 9, 2) := by decide +kernel
theorem dL_signFor_24 : decode cL_signFor 24 = .ok (.irem, 1) := by decide +kernel
theorem dL_signFor_25 : decode cL_signFor 25 = .ok (.iadd, 1) := by decide +kernel
theorem dL_signFor_26 : decode cL_signFor 26 = .ok (.goto 29, 3) := by decide +kernel
theorem dL_signFor_29 : decode cL_signFor 29 = .ok (.iload_n 1, 1) := by decide +kernel
theorem dL_signFor_30 : decode cL_signFor 30 = .ok (.iconst 3, 1) := by decide +kernel
theorem dL_signFor_31 : decode cL_signFor 31 = .ok (.if_icmp .ge 14, 3) := by decide +kernel
theorem dL_signFor_34 : decode cL_signFor 34 = .ok (.iload_n 2, 1) := by decide +kernel
theorem dL_signFor_35 : decode cL_signFor 35 = .ok (.iconst 5, 1) := by decide +kernel
theorem dL_signFor_36 : decode cL_signFor 36 = .ok (.irem, 1) := by decide +kernel
theorem dL_signFor_37 : decode cL_signFor 37 = .ok (.ifCond .ne 8, 3) := by decide +kernel
theorem dL_signFor_40 : decode cL_signFor 40 = .ok (.bipush 40, 2) := by decide +kernel
theorem dL_signFor_42 : decode cL_signFor 42 = .ok (.goto 13, 3) := by decide +kernel
theorem dL_signFor_45 : decode cL_signFor 45 = .ok (.bipush 97, 2) := by decide +kernel
theorem dL_signFor_47 : decode cL_signFor 47 = .ok (.iload_n 2, 1) := by decide +kernel
theorem dL_signFor_48 : decode cL_signFor 48 = .ok (.bipush 35, 2) := by decide +kernel
theorem dL_signFor_50 : decode cL_signFor 50 = .ok (.idiv, 1) := by decide +kernel
theorem dL_signFor_51 : decode cL_signFor 51 = .ok (.bipush 8, 2) := by decide +kernel
theorem dL_signFor_53 : decode cL_signFor 53 = .ok (.irem, 1) := by decide +kernel
theorem dL_signFor_54 : decode cL_signFor 54 = .ok (.iadd, 1) := by decide +kernel
theorem dL_signFor_55 : decode cL_signFor 55 = .ok (.ireturn, 1) := by decide +kernel
theorem dL_signFor_56 : decode cL_signFor 56 = .ok (.iload_n 1, 1) := by decide +kernel
theorem dL_signFor_57 : decode cL_signFor 57 = .ok (.ifCond .le 31, 3) := by decide +kernel
theorem dL_signFor_60 : decode cL_signFor 60 = .ok (.iload_n 2, 1) := by decide +kernel
theorem dL_signFor_61 : decode cL_signFor 61 = .ok (.iconst 3, 1) := by decide +kernel
theorem dL_signFor_62 : decode cL_signFor 62 = .ok (.irem, 1) := by decide +kernel
theorem dL_signFor_63 : decode cL_signFor 63 = .ok (.ifCond .ne 8, 3) := by decide +kernel
theorem dL_signFor_66 : decode cL_signFor 66 = .ok (.bipush 124, 2) := by decide +kernel
theorem dL_signFor_68 : decode cL_signFor 68 = .ok (.goto 22, 3) := by decide +kernel
theorem dL_signFor_71 : decode cL_signFor 71 = .ok (.iload_n 2, 1) := by decide +kernel
theorem dL_signFor_72 : decode cL_signFor 72 = .ok (.iconst 3, 1) := by decide +kernel
theorem dL_signFor_73 : decode cL_signFor 73 = .ok (.irem, 1) := by decide +kernel
theorem dL_signFor_74 : decode cL_signFor 74 = .ok (.iconst 1, 1) := by decide +kernel
theorem dL_signFor_75 : decode cL_signFor 75 = .ok (.if_icmp .ne 8, 3) := by decide +kernel
theorem dL_signFor_78 : decode cL_signFor 78 = .ok (.bipush 41, 2) := by decide +kernel
theorem dL_signFor_80 : decode cL_signFor 80 = .ok (.goto 10, 3) := by decide +kernel
theorem dL_signFor_83 : decode cL_signFor 83 = .ok (.bipush 43, 2) := by decide +kernel
theorem dL_signFor_85 : decode cL_signFor 85 = .ok (.goto 5, 3) := by decide +kernel
theorem dL_signFor_88 : decode cL_signFor 88 = .ok (.bipush 43, 2) := by decide +kernel
theorem dL_signFor_90 : decode cL_signFor 90 = .ok (.ireturn, 1) := by decide +kernel
