set_option maxRecDepth 20000 in
theorem ggL_pupil_X9_pupil : GoodIn wsL_pupil wsX9_pupil := goodIn_ca (goodIn_ca (goodIn_r _ [7, 8, 9, 10, 11, 12, 13, 14, 15, 16, 17, 18, 19, 20, 21, 22, 23, 24, 25, 26, 27, 28, 29, 30, 31, 32, 33, 34, 35, 36, 37, 38, 39, 40, 41, 42, 43, 44, 45, 46, 47, 48, 49, 50, 51, 52, 53, 54, 55, 56] (by decide +kernel) (by decide +kernel)) (goodIn_sub (fun _ h => List.mem_cons_of_mem _ (List.mem_append_left _ (List.mem_append_right _ h))) (by decide +kernel))) (goodIn_sub (fun _ h => List.mem_cons_of_mem _ (List.mem_append_right _ h)) (by decide +kernel))
set_option maxRecDepth 20000 in
theorem gL_pupil_X9_pupil : GoodIn wsL_pupil (wsV RL 7 RX9 yX9_pupil wsX9_pupil) := goodIn_app (goodIn_of _ (by decide +kernel)) ggL_pupil_X9_pupil
theorem dL_pupil_0 : decode cL_pupil 0 = .ok (.aload 4, 2) := by decide +kernel
theorem dL_pupil_2 : decode cL_pupil 2 = .ok (.iconst 0, 1) := by decide +kernel
theorem dL_pupil_3 : decode cL_pupil 3 = .ok (.aload_n 0, 1) := by decide +kernel
theorem dL_pupil_4 : decode cL_pupil 4 = .ok (.iload_n 1, 1) := by decide +kernel
theorem dL_pupil_5 : decode cL_pupil 5 = .ok (.iload_n 2, 1) := by decide +kernel
theorem dL_pupil_6 : decode cL_pupil 6 = .ok (.iload_n 3, 1) := by decide +kernel
theorem dL_pupil_7 : decode cL_pupil 7 = .ok (.invokevirtual 7, 3) := by decide +kernel
theorem dL_pupil_10 : decode cL_pupil 10 = .ok (.i2l, 1) := by decide +kernel
theorem dL_pupil_11 : decode cL_pupil 11 = .ok (.lastore, 1) := by decide +kernel
theorem dL_pupil_12 : decode cL_pupil 12 = .ok (.goto 11, 3) := by decide +kernel
theorem dL_pupil_15 : decode cL_pupil 15 = .ok (.astore 5, 2) := by decide +kernel
theorem dL_pupil_17 : decode cL_pupil 17 = .ok (.iconst 1, 1) := by decide +kernel
theorem dL_pupil_18 : decode cL_pupil 18 = .ok (.ireturn, 1) := by decide +kernel
theorem dL_pupil_19 : decode cL_pupil 19 = .ok (.astore 5, 2) := by decide +kernel
theorem dL_pupil_21 : decode cL_pupil 21 = .ok (.iconst 2, 1) := by decide +kernel
theorem dL_pupil_22 : decode cL_pupil 22 = .ok (.ireturn, 1) := by decide +kernel
theorem dL_pupil_23 : decode cL_pupil 23 = .ok (.iconst 0, 1) := by decide +kernel
theorem dL_pupil_24 : decode cL_pupil 24 = .ok (.ireturn, 1) := by decide +kernel
set_option maxRecDepth 20000 in
theorem ggL_gift_X9_gift : GoodIn wsL_gift wsX9_gift := goodIn_ca (goodIn_ca (goodIn_r _ [7, 8, 9, 10, 11, 12, 13, 14, 15, 16, 17, 18, 19, 20, 21, 22, 23, 24, 25, 26, 27, 28, 29, 30, 31, 32, 33, 34, 35, 36, 37, 38, 39, 40, 41, 42, 43, 44, 45, 46, 47, 48, 49, 50, 51, 52] (by decide +kernel) (by decide +kernel)) (goodIn_sub (fun _ h => List.mem_cons_of_mem _ (List.mem_append_left _ (List.mem_append_right _ h))) (by decide +kernel))) (goodIn_sub (fun _ h => List.mem_cons_of_mem _ (List.mem_append_right _ h)) (by decide +kernel))
set_option maxRecDepth 20000 in
theorem gL_gift_X9_gift : GoodIn wsL_gift (wsV RL 17 RX9 yX9_gift wsX9_gift) := goodIn_app (goodIn_of _ (by decide +kernel)) ggL_gift_X9_gift
theorem dL_gift_0 : decode cL_gift 0 = .ok (.aload_n 3, 1) := by decide +kernel
theorem dL_gift_1 : decode cL_gift 1 = .ok (.iconst 0, 1) := by decide +kernel
theorem dL_gift_2 : decode cL_gift 2 = .ok (.aload_n 0, 1) := by decide +kernel
theorem dL_gift_3 : decode cL_gift 3 = .ok (.iload_n 1, 1) := by decide +kernel
theorem dL_gift_4 : decode cL_gift 4 = .ok (.iload_n 2, 1) := by decide +kernel
theorem dL_gift_5 : decode cL_gift 5 = .ok (.invokevirtual 17, 3) := by decide +kernel
theorem dL_gift_8 : decode cL_gift 8 = .ok (.i2l, 1) := by decide +kernel
theorem dL_gift_9 : decode cL_gift 9 = .ok (.lastore, 1) := by decide +kernel
theorem dL_gift_10 : decode cL_gift 10 = .ok (.goto 11, 3) := by decide +kernel
theorem dL_gift_13 : decode cL_gift 13 = .ok (.astore 4, 2) := by decide +kernel
theorem dL_gift_15 : decode cL_gift 15 = .ok (.iconst 1, 1) := by decide +kernel
theorem dL_gift_16 : decode cL_gift 16 = .ok (.ireturn, 1) := by decide +kernel
theorem dL_gift_17 : decode cL_gift 17 = .ok (.astore 4, 2) := by decide +kernel
theorem dL_gift_19 : decode cL_gift 19 = .ok (.iconst 2, 1) := by decide +kernel
theorem dL_gift_20 : decode cL_gift 20 = .ok (.ireturn, 1) := by decide +kernel
theorem dL_gift_21 : decode cL_gift 21 = .ok (.iconst 0, 1) := by decide +kernel
theorem dL_gift_22 : decode cL_gift 22 = .ok (.ireturn, 1) := by decide +kernel
set_option maxRecDepth 20000 in
theorem ggL_type_X9_type : GoodIn wsL_type wsX9_type := goodIn_ca (goodIn_ca (goodIn_r _ [7, 8, 9, 10, 11, 12, 13, 14, 15, 16, 17, 18, 19, 20, 21, 22, 23, 24, 25, 26, 27, 28, 29, 30, 31, 32, 33, 34, 35, 36, 37, 38, 39, 40, 41, 42, 43, 44] (by decide +kernel) (by decide +kernel)) (goodIn_sub (fun _ h => List.mem_cons_of_mem _ (List.mem_append_left _ (List.mem_append_right _ h))) (by decide +kernel))) (goodIn_sub (fun _ h => List.mem_cons_of_mem _ (List.mem_append_right _ h)) (by decide +kernel))
set_option maxRecDepth 20000 in
theorem gL_type_X9_type : GoodIn wsL_type (wsV RL 23 RX9 yX9_type wsX9_type) := goodIn_app (goodIn_of _ (by decide +kernel)) ggL_type_X9_type
theorem dL_type_0 : decode cL_type 0 = .ok (.aload_n 2, 1) := by decide +kernel
theorem dL_type_1 : decode cL_type 1 = .ok (.iconst 0, 1) := by decide +kernel
theorem dL_type_2 : decode cL_type 2 = .ok (.aload_n 0, 1) := by decide +kernel
theorem dL_type_3 : decode cL_type 3 = .ok (.iload_n 1, 1) := by decide +kernel
theorem dL_type_4 : decode cL_type 4 = .ok (.invokevirtual 23, 3) := by decide +kernel
theorem dL_type_7 : decode cL_type 7 = .ok (.i2l, 1) := by decide +kernel
theorem dL_type_8 : decode cL_type 8 = .ok (.lastore, 1) := by decide +kernel
theorem dL_type_9 : decode cL_type 9 = .ok (.goto 9, 3) := by decide +kernel
theorem dL_type_12 : decode cL_type 12 = .ok (.astore_n 3, 1) := by decide +kernel
theorem dL_type_13 : decode cL_type 13 = .ok (.iconst 1, 1) := by decide +kernel
theorem dL_type_14 : decode cL_type 14 = .ok (.ireturn, 1) := by decide +kernel
theorem dL_type_15 : decode cL_type 15 = .ok (.astore_n 3, 1) := by decide +kernel
theorem dL_type_16 : decode cL_type 16 = .ok (.iconst 2, 1) := by decide +kernel
theorem dL_type_17 : decode cL_type 17 = .ok (.ireturn, 1) := by decide +kernel
theorem dL_type_18 : decode cL_type 18 = .ok (.iconst 0, 1) := by decide +kernel
theorem dL_type_19 : decode cL_type 19 = .ok (.ireturn, 1) := by decide +kernel
set_option maxRecDepth 20000 in
theorem ggL_scheme_X9_scheme : GoodIn wsL_scheme wsX9_scheme := goodIn_ca (goodIn_ca (goodIn_r _ [7, 8, 9, 10, 11, 12, 13, 14, 15, 16, 17, 6, 18, 19, 20, 21, 22, 23, 24, 25, 26, 27, 28, 29, 30, 31, 32, 33, 34, 35, 36, 37, 38, 39, 40, 41, 42, 43, 44, 45, 46, 47, 48, 49, 50, 51, 52, 53, 54, 55, 56, 57, 58, 59, 60, 61, 62, 63, 64, 65, 66, 67, 68, 69, 70, 71, 72, 73, 74, 75, 76, 77, 78, 79, 80, 81, 82, 83, 84, 85, 86, 87, 88, 89, 90, 91, 92, 93, 94, 95, 96, 97, 98, 99, 100, 101, 102, 103, 104, 105, 106, 107, 108, 109, 110, 111, 112, 113, 114, 115, 116, 117, 118, 119, 120, 121, 122, 123, 124, 125, 126, 127, 128, 129, 130, 131, 132, 133, 134, 135, 136, 137, 138, 139, 140, 141, 142, 143, 144, 145, 146, 147, 148, 149, 150, 151, 152, 153, 154, 155, 156, 157, 158, 159, 160, 161, 162, 163, 164, 165, 166, 167, 168, 169, 170, 171, 172, 173, 174, 175, 176, 177, 178, 179, 180, 181, 182, 183, 184, 185, 186, 187, 188, 189, 190, 191, 192, 193, 194] (by decide +kernel) (by decide +kernel)) (goodIn_sub (fun _ h => List.mem_cons_of_mem _ (List.mem_append_left _ (List.mem_append_right _ h))) (by decide +kernel))) (goodIn_sub (fun _ h => List.mem_cons_of_mem _ (List.mem_append_right _ h)) (by decide +kernel))
set_option maxRecDepth 20000 in
theorem gL_scheme_X9_scheme : GoodIn wsL_scheme (wsV RL 27 RX9 yX9_scheme wsX9_scheme) := goodIn_app (goodIn_of _ (by decide +kernel)) ggL_scheme_X9_scheme
theorem dL_scheme_0 : decode cL_scheme 0 = .ok (.aload_n 2, 1) := by decide +kernel
theorem dL_scheme_1 : decode cL_scheme 1 = .ok (.iconst 0, 1) := by decide +kernel
theorem dL_scheme_2 : decode cL_scheme 2 = .ok (.aload_n 0, 1) := by decide +kernel
theorem dL_scheme_3 : decode cL_scheme 3 = .ok (.iload_n 1, 1) := by decide +kernel
theorem dL_scheme_4 : decode cL_scheme 4 = .ok (.invokevirtual 27, 3) := by decide +kernel
theorem dL_scheme_7 : decode cL_scheme 7 = .ok (.i2l, 1) := by decide +kernel
theorem dL_scheme_8 : decode cL_scheme 8 = .ok (.lastore, 1) := by decide +kernel
theorem dL_scheme_9 : decode cL_scheme 9 = .ok (.goto 9, 3) := by decide +kernel
theorem dL_scheme_12 : decode cL_scheme 12 = .ok (.astore_n 3, 1) := by decide +kernel
theorem dL_scheme_13 : decode cL_scheme 13 = .ok (.iconst 1, 1) := by decide +kernel
theorem dL_scheme_14 : decode cL_scheme 14 = .ok (.ireturn, 1) := by decide +kernel
theorem dL_scheme_15 : decode cL_scheme 15 = .ok (.astore_n 3, 1) := by decide +kernel
theorem dL_scheme_16 : decode cL_scheme 16 = .ok (.iconst 2, 1) := by decide +kernel
theorem dL_scheme_17 : decode cL_scheme 17 = .ok (.ireturn, 1) := by decide +kernel
theorem dL_scheme_18 : decode cL_scheme 18 = .ok (.iconst 0, 1) := by decide +kernel
theorem dL_scheme_19 : decode cL_scheme 19 = .ok (.ireturn, 1) := by decide +kernel
set_option maxRecDepth 20000 in
theorem ggL_twice_X9_twice : GoodIn wsL_twice wsX9_twice := goodIn_ca (goodIn_r _ [6, 7, 8, 9, 10, 11, 5, 12, 13, 14, 15, 16, 17, 18, 19, 20, 21, 22, 23, 24, 25, 26, 27, 28, 29, 30, 31, 32, 33, 34, 35, 36, 37, 38] (by decide +kernel) (by decide +kernel)) (goodIn_sub (fun _ h => List.mem_cons_of_mem _ (List.mem_append_right _ h)) (by decide +kernel))
set_option maxRecDepth 20000 in
theorem gL_twice_X9_twice : GoodIn wsL_twice (wsV RL 30 RX9 yX9_twice wsX9_twice) := goodIn_app (goodIn_of _ (by decide +kernel)) ggL_twice_X9_twice
theorem dL_twice_0 : decode cL_twice 0 = .ok (.aload_n 3, 1) := by decide +kernel
theorem dL_twice_1 : decode cL_twice 1 = .ok (.iconst 0, 1) := by decide +kernel
theorem dL_twice_2 : decode cL_twice 2 = .ok (.aload_n 0, 1) := by decide +kernel
theorem dL_twice_3 : decode cL_twice 3 = .ok (.iload_n 1, 1) := by decide +kernel
theorem dL_twice_4 : decode cL_twice 4 = .ok (.iload_n 2, 1) := by decide +kernel
theorem dL_twice_5 : decode cL_twice 5 = .ok (.invokevirtual 30, 3) := by decide +kernel
theorem dL_twice_8 : decode cL_twice 8 = .ok (.ifCond .eq 7, 3) := by decide +kernel
theorem dL_twice_11 : decode cL_twice 11 = .ok (.lconst 1, 1) := by decide +kernel
theorem dL_twice_12 : decode cL_twice 12 = .ok (.goto 4, 3) := by decide +kernel
theorem dL_twice_15 : decode cL_twice 15 = .ok (.lconst 0, 1) := by decide +kernel
theorem dL_twice_16 : decode cL_twice 16 = .ok (.lastore, 1) := by decide +kernel
theorem dL_twice_17 : decode cL_twice 17 = .ok (.goto 7, 3) := by decide +kernel
theorem dL_twice_20 : decode cL_twice 20 = .ok (.astore 4, 2) := by decide +kernel
theorem dL_twice_22 : decode cL_twice 22 = .ok (.iconst 1, 1) := by decide +kernel
theorem dL_twice_23 : decode cL_twice 23 = .ok (.ireturn, 1) := by decide +kernel
theorem dL_twice_24 : decode cL_twice 24 = .ok (.iconst 0, 1) := by decide +kernel
theorem dL_twice_25 : decode cL_twice 25 = .ok (.ireturn, 1) := by decide +kernel
set_option maxRecDepth 20000 in
theorem ggL_tolerance_X9_tolerance : GoodIn wsL_tolerance wsX9_tolerance := goodIn_ca (goodIn_r _ [6, 7, 8, 9, 10, 11, 12, 13, 14, 15, 16, 17, 18, 19, 20, 21, 22, 23, 24] (by decide +kernel) (by decide +kernel)) (goodIn_sub (fun _ h => List.mem_cons_of_mem _ (List.mem_append_right _ h)) (by decide +kernel))
set_option maxRecDepth 20000 in
theorem gL_tolerance_X9_tolerance : GoodIn wsL_tolerance (wsV RL 34 RX9 yX9_tolerance wsX9_tolerance) := goodIn_app (goodIn_of _ (by decide +kernel)) ggL_tolerance_X9_tolerance
theorem dL_tolerance_0 : decode cL_tolerance 0 = .ok (.aload_n 2, 1) := by decide +kernel
theorem dL_tolerance_1 : decode cL_tolerance 1 = .ok (.iconst 0, 1) := by decide +kernel
theorem dL_tolerance_2 : decode cL_tolerance 2 = .ok (.aload_n 0, 1) := by decide +kernel
theorem dL_tolerance_3 : decode cL_tolerance 3 = .ok (.iload_n 1, 1) := by decide +kernel
theorem dL_tolerance_4 : decode cL_tolerance 4 = .ok (.invokevirtual 34, 3) := by decide +kernel
theorem dL_tolerance_7 : decode cL_tolerance 7 = .ok (.i2l, 1) := by decide +kernel
theorem dL_tolerance_8 : decode cL_tolerance 8 = .ok (.lastore, 1) := by decide +kernel
theorem dL_tolerance_9 : decode cL_tolerance 9 = .ok (.goto 6, 3) := by decide +kernel
theorem dL_tolerance_12 : decode cL_tolerance 12 = .ok (.astore_n 3, 1) := by decide +kernel
theorem dL_tolerance_13 : decode cL_tolerance 13 = .ok (.iconst 1, 1) := by decide +kernel
theorem dL_tolerance_14 : decode cL_tolerance 14 = .ok (.ireturn, 1) := by decide +kernel
theorem dL_tolerance_15 : decode cL_tolerance 15 = .ok (.iconst 0, 1) := by decide +kernel
theorem dL_tolerance_16 : decode cL_tolerance 16 = .ok (.ireturn, 1) := by decide +kernel
set_option maxRecDepth 20000 in
theorem ggL_reader_X9_reader : GoodIn wsL_reader wsX9_reader := goodIn_ca (goodIn_ca (goodIn_r _ [7, 8, 9, 10, 11, 12, 13, 14, 15, 16, 17, 18, 19, 20, 21, 22, 23, 24, 25, 26, 27, 28, 29, 30, 31, 32, 33, 34, 35, 36, 37, 38, 39, 40, 41, 42, 43, 44, 45, 46, 47, 48, 49, 50, 51, 52, 53, 54, 55, 56, 57, 58, 59, 60, 61, 62] (by decide +kernel) (by decide +kernel)) (goodIn_sub (fun _ h => List.mem_cons_of_mem _ (List.mem_append_left _ (List.mem_append_right _ h))) (by decide +kernel))) (goodIn_sub (fun _ h => List.mem_cons_of_mem _ (List.mem_append_right _ h)) (by decide +kernel))
set_option maxRecDepth 20000 in
theorem gL_reader_X9_reader : GoodIn wsL_reader (wsV RL 37 RX9 yX9_reader wsX9_reader) := goodIn_app (goodIn_of _ (by decide +kernel)) ggL_reader_X9_reader
theorem dL_reader_0 : decode cL_reader 0 = .ok (.aload 4, 2) := by decide +kernel
theorem dL_reader_2 : decode cL_reader 2 = .ok (.iconst 0, 1) := by decide +kernel
theorem dL_reader_3 : decode cL_reader 3 = .ok (.aload_n 0, 1) := by decide +kernel
theorem dL_reader_4 : decode cL_reader 4 = .ok (.iload_n 1, 1) := by decide +kernel
theorem dL_reader_5 : decode cL_reader 5 = .ok (.iload_n 2, 1) := by decide +kernel
theorem dL_reader_6 : decode cL_reader 6 = .ok (.iload_n 3, 1) := by decide +kernel
theorem dL_reader_7 : decode cL_reader 7 = .ok (.invokevirtual 37, 3) := by decide +kernel
theorem dL_reader_10 : decode cL_reader 10 = .ok (.i2l, 1) := by decide +kernel
theorem dL_reader_11 : decode cL_reader 11 = .ok (.lastore, 1) := by decide +kernel
theorem dL_reader_12 : decode cL_reader 12 = .ok (.goto 11, 3) := by decide +kernel
theorem dL_reader_15 : decode cL_reader 15 = .ok (.astore 5, 2) := by decide +kernel
theorem dL_reader_17 : decode cL_reader 17 = .ok (.iconst 1, 1) := by decide +kernel
theorem dL_reader_18 : decode cL_reader 18 = .ok (.ireturn, 1) := by decide +kernel
theorem dL_reader_19 : decode cL_reader 19 = .ok (.astore 5, 2) := by decide +kernel
theorem dL_reader_21 : decode cL_reader 21 = .ok (.iconst 2, 1) := by decide +kernel
theorem dL_reader_22 : decode cL_reader 22 = .ok (.ireturn, 1) := by decide +kernel
theorem dL_reader_23 : decode cL_reader 23 = .ok (.iconst 0, 1) := by decide +kernel
theorem dL_reader_24 : decode cL_reader 24 = .ok (.ireturn, 1) := by decide +kernel
set_option maxRecDepth 20000 in
theorem ggL_seed_X9_seed : GoodIn wsL_seed wsX9_seed := goodIn_ca (goodIn_ca (goodIn_ca (goodIn_r _ [8, 9, 10, 11, 12, 13, 14, 15, 16, 17, 18, 19, 7, 20, 21, 22, 23, 24, 25, 26, 27, 28, 29, 30, 31, 32, 33, 34, 35, 36, 37, 38, 39, 40, 41, 42, 43, 44, 45, 46, 47, 48, 49, 50, 51, 52, 53, 54, 55, 56, 57, 58, 59, 60, 61, 62, 63, 64, 65, 66, 67, 68, 69, 70, 71, 72, 73, 74] (by decide +kernel) (by decide +kernel)) (goodIn_sub (fun _ h => List.mem_cons_of_mem _ (List.mem_append_left _ (List.mem_append_left _ (List.mem_append_right _ h)))) (by decide +kernel))) (goodIn_sub (fun _ h => List.mem_cons_of_mem _ (List.mem_append_left _ (List.mem_append_right _ h))) (by decide +kernel))) (goodIn_sub (fun _ h => List.mem_cons_of_mem _ (List.mem_append_right _ h)) (by decide +kernel))
set_option maxRecDepth 20000 in
theorem gL_seed_X9_seed : GoodIn wsL_seed (wsV RL 40 RX9 yX9_seed wsX9_seed) := goodIn_app (goodIn_of _ (by decide +kernel)) ggL_seed_X9_seed
theorem dL_seed_0 : decode cL_seed 0 = .ok (.aload_n 3, 1) := by decide +kernel
theorem dL_seed_1 : decode cL_seed 1 = .ok (.iconst 0, 1) := by decide +kernel
theorem dL_seed_2 : decode cL_seed 2 = .ok (.aload_n 0, 1) := by decide +kernel
theorem dL_seed_3 : decode cL_seed 3 = .ok (.iload_n 1, 1) := by decide +kernel
theorem dL_seed_4 : decode cL_seed 4 = .ok (.iload_n 2, 1) := by decide +kernel
theorem dL_seed_5 : decode cL_seed 5 = .ok (.invokevirtual 40, 3) := by decide +kernel
theorem dL_seed_8 : decode cL_seed 8 = .ok (.i2l, 1) := by decide +kernel
theorem dL_seed_9 : decode cL_seed 9 = .ok (.lastore, 1) := by decide +kernel
theorem dL_seed_10 : decode cL_seed 10 = .ok (.goto 15, 3) := by decide +kernel
theorem dL_seed_13 : decode cL_seed 13 = .ok (.astore 4, 2) := by decide +kernel
theorem dL_seed_15 : decode cL_seed 15 = .ok (.iconst 1, 1) := by decide +kernel
theorem dL_seed_16 : decode cL_seed 16 = .ok (.ireturn, 1) := by decide +kernel
theorem dL_seed_17 : decode cL_seed 17 = .ok (.astore 4, 2) := by decide +kernel
theorem dL_seed_19 : decode cL_seed 19 = .ok (.iconst 2, 1) := by decide +kernel
theorem dL_seed_20 : decode cL_seed 20 = .ok (.ireturn, 1) := by decide +kernel
theorem dL_seed_21 : decode cL_seed 21 = .ok (.astore 4, 2) := by decide +kernel
theorem dL_seed_23 : decode cL_seed 23 = .ok (.iconst 3, 1) := by decide +kernel
theorem dL_seed_24 : decode cL_seed 24 = .ok (.ireturn, 1) := by decide +kernel
theorem dL_seed_25 : decode cL_seed 25 = .ok (.iconst 0, 1) := by decide +kernel
theorem dL_seed_26 : decode cL_seed 26 = .ok (.ireturn, 1) := by decide +kernel
set_option maxRecDepth 20000 in
theorem ggL_next_X9_next : GoodIn wsL_next wsX9_next := goodIn_ca (goodIn_ca (goodIn_r _ [7, 8, 9, 10, 11, 12, 13, 14, 15, 16, 17, 18, 19, 20, 21, 22, 23, 24, 25, 26, 27, 28, 29, 30, 31, 32, 33, 6, 34, 35, 36, 37, 38, 39, 40, 41, 42, 43, 44, 45, 46, 47, 48, 49, 50, 51, 52, 53, 54, 55, 56, 57, 58, 59, 60, 61, 62, 63, 64, 65, 66, 67, 68, 69, 70, 71, 72, 73, 74, 75, 76, 77, 78, 79, 80, 81, 82, 83, 84, 85, 86, 87, 88, 89, 90, 91, 92, 93, 94, 95, 96, 97, 98, 99, 100, 101, 102, 103, 104, 105, 106, 107, 108, 109, 110, 111, 112, 113, 114, 115, 116, 117, 118, 119, 120, 121, 122, 123, 124, 125, 126, 127, 128, 129, 130, 131, 132, 133, 134, 135, 136, 137, 138, 139, 140, 141, 142, 143, 144, 145, 146, 147, 148, 149, 150, 151, 152, 153, 154, 155, 156, 157, 158, 159, 160, 161, 162, 163, 164, 165, 166, 167, 168, 169, 170, 171, 172, 173, 174, 175, 176, 177, 178, 179, 180, 181, 182, 183, 184, 185, 186, 187, 188, 189, 190, 191, 192, 193, 194, 195, 196, 197, 198, 199, 200, 201, 202, 203, 204, 205, 206, 207, 208, 209, 210, 211, 212, 213, 214, 215, 216, 217, 218, 219, 220, 221, 222, 223, 224, 225, 226, 227, 228, 229] (by decide +kernel) (by decide +kernel)) (goodIn_sub (fun _ h => List.mem_cons_of_mem _ (List.mem_append_left _ (List.mem_append_right _ h))) (by decide +kernel))) (goodIn_sub (fun _ h => List.mem_cons_of_mem _ (List.mem_append_right _ h)) (by decide +kernel))
set_option maxRecDepth 20000 in
theorem gL_next_X9_next : GoodIn wsL_next (wsV RL 43 RX9 yX9_next wsX9_next) := goodIn_app (goodIn_of _ (by decide +kernel)) ggL_next_X9_next
theorem dL_next_0 : decode cL_next 0 = .ok (.aload_n 2, 1) := by decide +kernel
theorem dL_next_1 : decode cL_next 1 = .ok (.iconst 0, 1) := by decide +kernel
theorem dL_next_2 : decode cL_next 2 = .ok (.aload_n 0, 1) := by decide +kernel
theorem dL_next_3 : decode cL_next 3 = .ok (.iload_n 1, 1) := by decide +kernel
theorem dL_next_4 : decode cL_next 4 = .ok (.invokevirtual 43, 3) := by decide +kernel
theorem dL_next_7 : decode cL_next 7 = .ok (.i2l, 1) := by decide +kernel
theorem dL_next_8 : decode cL_next 8 = .ok (.lastore, 1) := by decide +kernel
theorem dL_next_9 : decode cL_next 9 = .ok (.goto 9, 3) := by decide +kernel
theorem dL_next_12 : decode cL_next 12 = .ok (.astore_n 3, 1) := by decide +kernel
theorem dL_next_13 : decode cL_next 13 = .ok (.iconst 1, 1) := by decide +kernel
theorem dL_next_14 : decode cL_next 14 = .ok (.ireturn, 1) := by decide +kernel
theorem dL_next_15 : decode cL_next 15 = .ok (.astore_n 3, 1) := by decide +kernel
theorem dL_next_16 : decode cL_next 16 = .ok (.iconst 2, 1) := by decide +kernel
theorem dL_next_17 : decode cL_next 17 = .ok (.ireturn, 1) := by decide +kernel
theorem dL_next_18 : decode cL_next 18 = .ok (.iconst 0, 1) := by decide +kernel
theorem dL_next_19 : decode cL_next 19 = .ok (.ireturn, 1) := by decide +kernel
set_option maxRecDepth 20000 in
theorem ggL_read_X9_read : GoodIn wsL_read wsX9_read := goodIn_ca (goodIn_ca (goodIn_ca (goodIn_r _ [8, 9, 10, 11, 12, 13, 14, 15, 16, 17, 18, 19, 20, 21, 22, 23, 24, 25, 26, 7, 27, 28, 29, 30, 31, 32, 33, 34, 35, 36, 37, 38, 39, 40, 41, 42, 43, 44, 45, 46, 47, 48, 49, 50, 51, 52, 53, 54, 55, 56, 57, 58, 59, 60, 61, 62, 63, 64, 65, 66, 67, 68, 69, 70, 71, 72, 73, 74, 75, 76, 77, 78, 79, 80, 81, 82, 83, 84, 85, 86, 87, 88, 89, 90, 91, 92, 93, 94, 95, 96, 97, 98, 99, 100, 101, 102, 103, 104, 105, 106, 107, 108, 109, 110, 111, 112, 113, 114, 115, 116, 117, 118, 119, 120, 121, 122, 123, 124, 125, 126, 127, 128, 129, 130, 131, 132, 133, 134, 135, 136, 137, 138, 139, 140, 141, 142, 143, 144, 145, 146, 147, 148, 149, 150, 151, 152, 153, 154, 155, 156, 157, 158, 159, 160, 161, 162, 163, 164, 165, 166, 167, 168, 169, 170, 171, 172, 173, 174, 175, 176, 177, 178, 179, 180, 181, 182, 183, 184, 185, 186, 187, 188, 189, 190, 191, 192, 193, 194, 195, 196, 197, 198, 199, 200, 201, 202, 203] (by decide +kernel) (by decide +kernel)) (goodIn_sub (fun _ h => List.mem_cons_of_mem _ (List.mem_append_left _ (List.mem_append_left _ (List.mem_append_right _ h)))) (by decide +kernel))) (goodIn_sub (fun _ h => List.mem_cons_of_mem _ (List.mem_append_left _ (List.mem_append_right _ h))) (by decide +kernel))) (goodIn_sub (fun _ h => List.mem_cons_of_mem _ (List.mem_append_right _ h)) (by decide +kernel))
set_option maxRecDepth 20000 in
theorem gL_read_X9_read : GoodIn wsL_read (wsV RL 46 RX9 yX9_read wsX9_read) := goodIn_app (goodIn_of _ (by decide +kernel)) ggL_read_X9_read
theorem dL_read_0 : decode cL_read 0 = .ok (.aload_n 3, 1) := by decide +kernel
theorem dL_read_1 : decode cL_read 1 = .ok (.iconst 0, 1) := by decide +kernel
theorem dL_read_2 : decode cL_read 2 = .ok (.aload_n 0, 1) := by decide +kernel
theorem dL_read_3 : decode cL_read 3 = .ok (.iload_n 1, 1) := by decide +kernel
theorem dL_read_4 : decode cL_read 4 = .ok (.iload_n 2, 1) := by decide +kernel
theorem dL_read_5 : decode cL_read 5 = .ok (.invokevirtual 46, 3) := by decide +kernel
theorem dL_read_8 : decode cL_read 8 = .ok (.i2l, 1) := by decide +kernel
theorem dL_read_9 : decode cL_read 9 = .ok (.lastore, 1) := by decide +kernel
theorem dL_read_10 : decode cL_read 10 = .ok (.goto 15, 3) := by decide +kernel
theorem dL_read_13 : decode cL_read 13 = .ok (.astore 4, 2) := by decide +kernel
theorem dL_read_15 : decode cL_read 15 = .ok (.iconst 1, 1) := by decide +kernel
theorem dL_read_16 : decode cL_read 16 = .ok (.ireturn, 1) := by decide +kernel
theorem dL_read_17 : decode cL_read 17 = .ok (.astore 4, 2) := by decide +kernel
theorem dL_read_19 : decode cL_read 19 = .ok (.iconst 2, 1) := by decide +kernel
theorem dL_read_20 : decode cL_read 20 = .ok (.ireturn, 1) := by decide +kernel
theorem dL_read_21 : decode cL_read 21 = .ok (.astore 4, 2) := by decide +kernel
theorem dL_read_23 : decode cL_read 23 = .ok (.iconst 3, 1) := by decide +kernel
theorem dL_read_24 : decode cL_read 24 = .ok (.ireturn, 1) := by decide +kernel
theorem dL_read_25 : decode cL_read 25 = .ok (.iconst 0, 1) := by decide +kernel
theorem dL_read_26 : decode cL_read 26 = .ok (.ireturn, 1) := by decide +kernel
set_option maxRecDepth 20000 in
theorem ggL_goOn_X9_goOn : GoodIn wsL_goOn wsX9_goOn := goodIn_ca (goodIn_ca (goodIn_r _ [7, 8, 9, 10, 11, 12, 13, 14, 15, 16, 17, 18, 19, 20, 21, 22, 23, 24, 25, 26, 27, 28, 29, 30, 31, 32, 33, 34, 35, 36, 37, 38, 39, 40, 41, 42, 43, 44, 45, 46, 47, 48, 49, 50, 51, 52, 53, 54, 55, 56, 57, 58, 59, 60, 61, 62, 63, 64, 65, 66, 67, 68, 69, 70, 71, 72, 73, 74, 75, 76, 77, 78, 79, 80, 81, 82, 83, 84, 85, 86, 87] (by decide +kernel) (by decide +kernel)) (goodIn_sub (fun _ h => List.mem_cons_of_mem _ (List.mem_append_left _ (List.mem_append_right _ h))) (by decide +kernel))) (goodIn_sub (fun _ h => List.mem_cons_of_mem _ (List.mem_append_right _ h)) (by decide +kernel))
set_option maxRecDepth 20000 in
theorem gL_goOn_X9_goOn : GoodIn wsL_goOn (wsV RL 49 RX9 yX9_goOn wsX9_goOn) := goodIn_app (goodIn_of _ (by decide +kernel)) ggL_goOn_X9_goOn
theorem dL_goOn_0 : decode cL_goOn 0 = .ok (.aload_n 2, 1) := by decide +kernel
theorem dL_goOn_1 : decode cL_goOn 1 = .ok (.iconst 0, 1) := by decide +kernel
theorem dL_goOn_2 : decode cL_goOn 2 = .ok (.aload_n 0, 1) := by decide +kernel
theorem dL_goOn_3 : decode cL_goOn 3 = .ok (.iload_n 1, 1) := by decide +kernel
theorem dL_goOn_4 : decode cL_goOn 4 = .ok (.invokevirtual 49, 3) := by decide +kernel
theorem dL_goOn_7 : decode cL_goOn 7 = .ok (.i2l, 1) := by decide +kernel
theorem dL_goOn_8 : decode cL_goOn 8 = .ok (.lastore, 1) := by decide +kernel
theorem dL_goOn_9 : decode cL_goOn 9 = .ok (.goto 9, 3) := by decide +kernel
theorem dL_goOn_12 : decode cL_goOn 12 = .ok (.astore_n 3, 1) := by decide +kernel
theorem dL_goOn_13 : decode cL_goOn 13 = .ok (.iconst 1, 1) := by decide +kernel
theorem dL_goOn_14 : decode cL_goOn 14 = .ok (.ireturn, 1) := by decide +kernel
theorem dL_goOn_15 : decode cL_goOn 15 = .ok (.astore_n 3, 1) := by decide +kernel
theorem dL_goOn_16 : decode cL_goOn 16 = .ok (.iconst 2, 1) := by decide +kernel
theorem dL_goOn_17 : decode cL_goOn 17 = .ok (.ireturn, 1) := by decide +kernel
theorem dL_goOn_18 : decode cL_goOn 18 = .ok (.iconst 0, 1) := by decide +kernel
theorem dL_goOn_19 : decode cL_goOn 19 = .ok (.ireturn, 1) := by decide +kernel
set_option maxRecDepth 20000 in
theorem ggL_lines_X9_lines : GoodIn wsL_lines wsX9_lines := goodIn_ca (goodIn_ca (goodIn_r _ [7, 8, 9, 10, 11, 12, 13, 14, 15, 16, 17, 18, 6, 19, 20, 21, 22, 23, 24, 25, 26, 27, 28, 29, 30, 31, 32, 33, 34, 35, 36, 37, 38, 39, 40, 41, 42, 43, 44, 45, 46, 47, 48, 49, 50, 51, 52, 53, 54, 55, 56, 57, 58, 59, 60, 61, 62, 63, 64, 65, 66, 67, 68, 69, 70, 71, 72, 73, 74, 75, 76, 77, 78, 79, 80, 81, 82, 83, 84, 85, 86, 87, 88, 89, 90, 91, 92, 93, 94, 95, 96, 97, 98, 99, 100, 101, 102, 103, 104, 105, 106, 107, 108, 109, 110, 111, 112, 113, 114, 115, 116, 117, 118, 119, 120, 121, 122, 123, 124, 125, 126, 127, 128, 129, 130, 131, 132, 133, 134, 135, 136, 137, 138, 139, 140, 141, 142, 143, 144, 145, 146, 147, 148, 149, 150, 151, 152, 153, 154, 155, 156, 157, 158, 159, 160, 161, 162, 163, 164] (by decide +kernel) (by decide +kernel)) (goodIn_sub (fun _ h => List.mem_cons_of_mem _ (List.mem_append_left _ (List.mem_append_right _ h))) (by decide +kernel))) (goodIn_sub (fun _ h => List.mem_cons_of_mem _ (List.mem_append_right _ h)) (by decide +kernel))
set_option maxRecDepth 20000 in
theorem gL_lines_X9_lines : GoodIn wsL_lines (wsV RL 52 RX9 yX9_lines wsX9_lines) := goodIn_app (goodIn_of _ (by decide +kernel)) ggL_lines_X9_lines
theorem dL_lines_0 : decode cL_lines 0 = .ok (.aload 4, 2) := by decide +kernel
theorem dL_lines_2 : decode cL_lines 2 = .ok (.iconst 0, 1) := by decide +kernel
theorem dL_lines_3 : decode cL_lines 3 = .ok (.aload_n 0, 1) := by decide +kernel
theorem dL_lines_4 : decode cL_lines 4 = .ok (.iload_n 1, 1) := by decide +kernel
theorem dL_lines_5 : decode cL_lines 5 = .ok (.iload_n 2, 1) := by decide +kernel
theorem dL_lines_6 : decode cL_lines 6 = .ok (.iload_n 3, 1) := by decide +kernel
theorem dL_lines_7 : decode cL_lines 7 = .ok (.invokevirtual 52, 3) := by decide +kernel
theorem dL_lines_10 : decode cL_lines 10 = .ok (.i2l, 1) := by decide +kernel
theorem dL_lines_11 : decode cL_lines 11 = .ok (.lastore, 1) := by decide +kernel
theorem dL_lines_12 : decode cL_lines 12 = .ok (.goto 11, 3) := by decide +kernel
theorem dL_lines_15 : decode cL_lines 15 = .ok (.astore 5, 2) := by decide +kernel
theorem dL_lines_17 : decode cL_lines 17 = .ok (.iconst 1, 1) := by decide +kernel
theorem dL_lines_18 : decode cL_lines 18 = .ok (.ireturn, 1) := by decide +kernel
theorem dL_lines_19 : decode cL_lines 19 = .ok (.astore 5, 2) := by decide +kernel
theorem dL_lines_21 : decode cL_lines 21 = .ok (.iconst 2, 1) := by decide +kernel
theorem dL_lines_22 : decode cL_lines 22 = .ok (.ireturn, 1) := by decide +kernel
theorem dL_lines_23 : decode cL_lines 23 = .ok (.iconst 0, 1) := by decide +kernel
theorem dL_lines_24 : decode cL_lines 24 = .ok (.ireturn, 1) := by decide +kernel
set_option maxRecDepth 20000 in
theorem ggL_release_X9_release : GoodIn wsL_release wsX9_release := goodIn_ca (goodIn_r _ [6, 7, 8, 9, 10, 11, 12, 13, 14, 15, 5, 16, 17, 18, 19, 20, 21, 22, 23, 24, 25, 26, 27, 28, 29, 30, 31, 32, 33, 34, 35, 36, 37, 38, 39, 40, 41, 42, 43, 44, 45, 46, 47, 48, 49, 50, 51, 52, 53, 54, 55, 56, 57, 58, 59, 60, 61, 62, 63, 64, 65, 66, 67, 68, 69, 70, 71, 72, 73, 74, 75, 76, 77, 78, 79, 80, 81, 82, 83, 84, 85, 86, 87, 88, 89, 90, 91, 92, 93, 94, 95, 96, 97, 98, 99, 100, 101, 102, 103, 104, 105, 106, 107, 108, 109, 110, 111, 112, 113, 114, 115, 116, 117, 118, 119, 120, 121, 122, 123, 124, 125, 126, 127, 128, 129, 130, 131, 132, 133, 134, 135, 136, 137, 138, 139, 140, 141, 142, 143, 144, 145, 146, 147, 148, 149, 150, 151, 152, 153, 154, 155, 156, 157, 158, 159, 160, 161, 162] (by decide +kernel) (by decide +kernel)) (goodIn_sub (fun _ h => List.mem_cons_of_mem _ (List.mem_append_right _ h)) (by decide +kernel))
set_option maxRecDepth 20000 in
theorem gL_release_X9_release : GoodIn wsL_release (wsV RL 56 RX9 yX9_release wsX9_release) := goodIn_app (goodIn_of _ (by decide +kernel)) ggL_release_X9_release
theorem dL_release_0 : decode cL_release 0 = .ok (.aload_n 1, 1) := by decide +kernel
theorem dL_release_1 : decode cL_release 1 = .ok (.iconst 0, 1) := by decide +kernel
theorem dL_release_2 : decode cL_release 2 = .ok (.aload_n 0, 1) := by decide +kernel
theorem dL_release_3 : decode cL_release 3 = .ok (.invokevirtual 56, 3) := by decide +kernel
theorem dL_release_6 : decode cL_release 6 = .ok (.i2l, 1) := by decide +kernel
theorem dL_release_7 : decode cL_release 7 = .ok (.lastore, 1) := by decide +kernel
theorem dL_release_8 : decode cL_release 8 = .ok (.goto 6, 3) := by decide +kernel
theorem dL_release_11 : decode cL_release 11 = .ok (.astore_n 2, 1) := by decide +kernel
theorem dL_release_12 : decode cL_release 12 = .ok (.iconst 1, 1) := by decide +kernel
theorem dL_release_13 : decode cL_release 13 = .ok (.ireturn, 1) := by decide +kernel
theorem dL_release_14 : decode cL_release 14 = .ok (.iconst 0, 1) := by decide +kernel
theorem dL_release_15 : decode cL_release 15 = .ok (.ireturn, 1) := by decide +kernel
set_option maxRecDepth 20000 in
theorem ggL_appeal_X9_appeal : GoodIn wsL_appeal wsX9_appeal := goodIn_ca (goodIn_ca (goodIn_r _ [7, 8, 9, 10, 11, 12, 13, 14, 15, 16, 17, 18, 19, 20, 21, 6, 22, 23, 24, 25, 26, 27, 28, 29, 30, 31, 32, 33, 34, 35, 36, 37, 38, 39, 40, 41, 42, 43, 44, 45, 46, 47, 48, 49, 50, 51, 52, 53, 54, 55, 56, 57, 58, 59, 60, 61, 62, 63, 64, 65, 66, 67, 68, 69, 70, 71, 72, 73, 74, 75, 76, 77, 78, 79, 80, 81, 82, 83, 84, 85, 86, 87, 88, 89, 90, 91, 92, 93, 94, 95, 96, 97, 98, 99, 100, 101, 102, 103, 104, 105, 106, 107, 108, 109, 110, 111, 112, 113, 114, 115, 116, 117, 118, 119, 120, 121, 122, 123, 124, 125, 126, 127, 128, 129, 130, 131, 132, 133, 134, 135, 136, 137, 138, 139, 140, 141, 142, 143, 144, 145, 146, 147, 148, 149, 150, 151, 152, 153, 154, 155, 156, 157, 158, 159] (by decide +kernel) (by decide +kernel)) (goodIn_sub (fun _ h => List.mem_cons_of_mem _ (List.mem_append_left _ (List.mem_append_right _ h))) (by decide +kernel))) (goodIn_sub (fun _ h => List.mem_cons_of_mem _ (List.mem_append_right _ h)) (by decide +kernel))
set_option maxRecDepth 20000 in
theorem gL_appeal_X9_appeal : GoodIn wsL_appeal (wsV RL 60 RX9 yX9_appeal wsX9_appeal) := goodIn_app (goodIn_of _ (by decide +kernel)) ggL_appeal_X9_appeal
theorem dL_appeal_0 : decode cL_appeal 0 = .ok (.aload_n 3, 1) := by decide +kernel
theorem dL_appeal_1 : decode cL_appeal 1 = .ok (.iconst 0, 1) := by decide +kernel
theorem dL_appeal_2 : decode cL_appeal 2 = .ok (.aload_n 0, 1) := by decide +kernel
theorem dL_appeal_3 : decode cL_appeal 3 = .ok (.iload_n 1, 1) := by decide +kernel
theorem dL_appeal_4 : decode cL_appeal 4 = .ok (.iload_n 2, 1) := by decide +kernel
theorem dL_appeal_5 : decode cL_appeal 5 = .ok (.invokevirtual 60, 3) := by decide +kernel
theorem dL_appeal_8 : decode cL_appeal 8 = .ok (.i2l, 1) := by decide +kernel
theorem dL_appeal_9 : decode cL_appeal 9 = .ok (.lastore, 1) := by decide +kernel
theorem dL_appeal_10 : decode cL_appeal 10 = .ok (.goto 11, 3) := by decide +kernel
theorem dL_appeal_13 : decode cL_appeal 13 = .ok (.astore 4, 2) := by decide +kernel
theorem dL_appeal_15 : decode cL_appeal 15 = .ok (.iconst 1, 1) := by decide +kernel
theorem dL_appeal_16 : decode cL_appeal 16 = .ok (.ireturn, 1) := by decide +kernel
theorem dL_appeal_17 : decode cL_appeal 17 = .ok (.astore 4, 2) := by decide +kernel
theorem dL_appeal_19 : decode cL_appeal 19 = .ok (.iconst 2, 1) := by decide +kernel
theorem dL_appeal_20 : decode cL_appeal 20 = .ok (.ireturn, 1) := by decide +kernel
theorem dL_appeal_21 : decode cL_appeal 21 = .ok (.iconst 0, 1) := by decide +kernel
theorem dL_appeal_22 : decode cL_appeal 22 = .ok (.ireturn, 1) := by decide +kernel
set_option maxRecDepth 20000 in
theorem ggL_versions_X9_versions : GoodIn wsL_versions wsX9_versions := goodIn_ca (goodIn_r _ [6, 7, 8, 9, 10, 11, 12, 5, 13, 14, 15, 16, 17, 18, 19, 20, 21, 22, 23, 24, 25, 26, 27, 28, 29, 30, 31, 32, 33, 34, 35, 36, 37, 38, 39, 40, 41, 42, 43] (by decide +kernel) (by decide +kernel)) (goodIn_sub (fun _ h => List.mem_cons_of_mem _ (List.mem_append_right _ h)) (by decide +kernel))
set_option maxRecDepth 20000 in
theorem gL_versions_X9_versions : GoodIn wsL_versions (wsV RL 63 RX9 yX9_versions wsX9_versions) := goodIn_app (goodIn_of _ (by decide +kernel)) ggL_versions_X9_versions
theorem dL_versions_0 : decode cL_versions 0 = .ok (.aload_n 2, 1) := by decide +kernel
theorem dL_versions_1 : decode cL_versions 1 = .ok (.iconst 0, 1) := by decide +kernel
theorem dL_versions_2 : decode cL_versions 2 = .ok (.aload_n 0, 1) := by decide +kernel
theorem dL_versions_3 : decode cL_versions 3 = .ok (.iload_n 1, 1) := by decide +kernel
theorem dL_versions_4 : decode cL_versions 4 = .ok (.invokevirtual 63, 3) := by decide +kernel
theorem dL_versions_7 : decode cL_versions 7 = .ok (.i2l, 1) := by decide +kernel
theorem dL_versions_8 : decode cL_versions 8 = .ok (.lastore, 1) := by decide +kernel
theorem dL_versions_9 : decode cL_versions 9 = .ok (.goto 6, 3) := by decide +kernel
theorem dL_versions_12 : decode cL_versions 12 = .ok (.astore_n 3, 1) := by decide +kernel
theorem dL_versions_13 : decode cL_versions 13 = .ok (.iconst 1, 1) := by decide +kernel
theorem dL_versions_14 : decode cL_versions 14 = .ok (.ireturn, 1) := by decide +kernel
theorem dL_versions_15 : decode cL_versions 15 = .ok (.iconst 0, 1) := by decide +kernel
theorem dL_versions_16 : decode cL_versions 16 = .ok (.ireturn, 1) := by decide +kernel
set_option maxRecDepth 20000 in
theorem ggL_markOf_X9_markOf : GoodIn wsL_markOf wsX9_markOf := goodIn_ca (goodIn_ca (goodIn_r _ [7, 8, 9, 10, 11, 12, 13, 14, 6, 15, 16, 17, 18, 19, 20, 21, 22, 23, 24, 25, 26, 27, 28, 29, 30, 31, 32, 33, 34, 35, 36, 37, 38, 39, 40, 41, 42, 43, 44, 45, 46, 47, 48, 49, 50, 51, 52, 53, 54, 55, 56, 57, 58, 59, 60, 61, 62, 63, 64, 65, 66, 67, 68, 69, 70, 71, 72, 73, 74, 75, 76, 77, 78, 79, 80, 81, 82, 83, 84, 85, 86, 87] (by decide +kernel) (by decide +kernel)) (goodIn_sub (fun _ h => List.mem_cons_of_mem _ (List.mem_append_left _ (List.mem_append_right _ h))) (by decide +kernel))) (goodIn_sub (fun _ h => List.mem_cons_of_mem _ (List.mem_append_right _ h)) (by decide +kernel))
set_option maxRecDepth 20000 in
theorem gL_markOf_X9_markOf : GoodIn wsL_markOf (wsV RL 66 RX9 yX9_markOf wsX9_markOf) := goodIn_app (goodIn_of _ (by decide +kernel)) ggL_markOf_X9_markOf
theorem dL_markOf_0 : decode cL_markOf 0 = .ok (.aload 4, 2) := by decide +kernel
theorem dL_markOf_2 : decode cL_markOf 2 = .ok (.iconst 0, 1) := by decide +kernel
theorem dL_markOf_3 : decode cL_markOf 3 = .ok (.aload_n 0, 1) := by decide +kernel
theorem dL_markOf_4 : decode cL_markOf 4 = .ok (.iload_n 1, 1) := by decide +kernel
theorem dL_markOf_5 : decode cL_markOf 5 = .ok (.iload_n 2, 1) := by decide +kernel
theorem dL_markOf_6 : decode cL_markOf 6 = .ok (.iload_n 3, 1) := by decide +kernel
theorem dL_markOf_7 : decode cL_markOf 7 = .ok (.invokevirtual 66, 3) := by decide +kernel
theorem dL_markOf_10 : decode cL_markOf 10 = .ok (.i2l, 1) := by decide +kernel
theorem dL_markOf_11 : decode cL_markOf 11 = .ok (.lastore, 1) := by decide +kernel
theorem dL_markOf_12 : decode cL_markOf 12 = .ok (.goto 11, 3) := by decide +kernel
theorem dL_markOf_15 : decode cL_markOf 15 = .ok (.astore 5, 2) := by decide +kernel
theorem dL_markOf_17 : decode cL_markOf 17 = .ok (.iconst 1, 1) := by decide +kernel
theorem dL_markOf_18 : decode cL_markOf 18 = .ok (.ireturn, 1) := by decide +kernel
theorem dL_markOf_19 : decode cL_markOf 19 = .ok (.astore 5, 2) := by decide +kernel
theorem dL_markOf_21 : decode cL_markOf 21 = .ok (.iconst 2, 1) := by decide +kernel
theorem dL_markOf_22 : decode cL_markOf 22 = .ok (.ireturn, 1) := by decide +kernel
theorem dL_markOf_23 : decode cL_markOf 23 = .ok (.iconst 0, 1) := by decide +kernel
theorem dL_markOf_24 : decode cL_markOf 24 = .ok (.ireturn, 1) := by decide +kernel
set_option maxRecDepth 20000 in
theorem ggL_written_X9_written : GoodIn wsL_written wsX9_written := goodIn_ca (goodIn_r _ [6, 7, 8, 9, 10, 11, 5, 12, 13, 14, 15, 16, 17, 18, 19, 20, 21, 22, 23, 24, 25, 26, 27, 28, 29, 30, 31, 32, 33, 34, 35, 36, 37, 38, 39, 40, 41, 42, 43, 44, 45, 46, 47, 48, 49, 50, 51, 52, 53, 54] (by decide +kernel) (by decide +kernel)) (goodIn_sub (fun _ h => List.mem_cons_of_mem _ (List.mem_append_right _ h)) (by decide +kernel))
set_option maxRecDepth 20000 in
theorem gL_written_X9_written : GoodIn wsL_written (wsV RL 69 RX9 yX9_written wsX9_written) := goodIn_app (goodIn_of _ (by decide +kernel)) ggL_written_X9_written
theorem dL_written_0 : decode cL_written 0 = .ok (.aload 4, 2) := by decide +kernel
theorem dL_written_2 : decode cL_written 2 = .ok (.iconst 0, 1) := by decide +kernel
theorem dL_written_3 : decode cL_written 3 = .ok (.aload_n 0, 1) := by decide +kernel
theorem dL_written_4 : decode cL_written 4 = .ok (.iload_n 1, 1) := by decide +kernel
theorem dL_written_5 : decode cL_written 5 = .ok (.iload_n 2, 1) := by decide +kernel
theorem dL_written_6 : decode cL_written 6 = .ok (.iload_n 3, 1) := by decide +kernel
theorem dL_written_7 : decode cL_written 7 = .ok (.invokevirtual 69, 3) := by decide +kernel
theorem dL_written_10 : decode cL_written 10 = .ok (.i2l, 1) := by decide +kernel
theorem dL_written_11 : decode cL_written 11 = .ok (.lastore, 1) := by decide +kernel
theorem dL_written_12 : decode cL_written 12 = .ok (.goto 7, 3) := by decide +kernel
theorem dL_written_15 : decode cL_written 15 = .ok (.astore 5, 2) := by decide +kernel
theorem dL_written_17 : decode cL_written 17 = .ok (.iconst 1, 1) := by decide +kernel
theorem dL_written_18 : decode cL_written 18 = .ok (.ireturn, 1) := by decide +kernel
theorem dL_written_19 : decode cL_written 19 = .ok (.iconst 0, 1) := by decide +kernel
theorem dL_written_20 : decode cL_written 20 = .ok (.ireturn, 1) := by decide +kernel
set_option maxRecDepth 20000 in
theorem ggL_mark_X9_mark : GoodIn wsL_mark wsX9_mark := goodIn_ca (goodIn_r _ [6, 7, 8, 9, 10, 11, 12, 13, 14, 15, 16, 17, 5, 18, 19, 20, 21, 22, 23, 24, 25, 26, 27, 28, 29, 30, 31, 32, 33, 34, 35, 36, 37, 38, 39, 40, 41, 42, 43, 44, 45, 46, 47, 48, 49, 50, 51, 52, 53, 54, 55, 56, 57, 58, 59, 60, 61, 62, 63, 64, 65, 66, 67, 68, 69, 70, 71, 72, 73, 74, 75, 76, 77, 78, 79, 80, 81, 82, 83, 84, 85, 86, 87, 88, 89, 90, 91, 92, 93, 94, 95, 96, 97, 98, 99, 100, 101, 102, 103, 104, 105, 106, 107, 108, 109, 110, 111, 112, 113, 114, 115, 116, 117, 118, 119, 120, 121, 122, 123, 124, 125, 126, 127, 128, 129, 130, 131, 132, 133, 134, 135, 136, 137, 138, 139, 140, 141, 142] (by decide +kernel) (by decide +kernel)) (goodIn_sub (fun _ h => List.mem_cons_of_mem _ (List.mem_append_right _ h)) (by decide +kernel))
set_option maxRecDepth 20000 in
theorem gL_mark_X9_mark : GoodIn wsL_mark (wsV RL 73 RX9 yX9_mark wsX9_mark) := goodIn_app (goodIn_of _ (by decide +kernel)) ggL_mark_X9_mark
theorem dL_mark_0 : decode cL_mark 0 = .ok (.aload_n 3, 1) := by decide +kernel
theorem dL_mark_1 : decode cL_mark 1 = .ok (.iconst 0, 1) := by decide +kernel
theorem dL_mark_2 : decode cL_mark 2 = .ok (.aload_n 0, 1) := by decide +kernel
theorem dL_mark_3 : decode cL_mark 3 = .ok (.iload_n 1, 1) := by decide +kernel
theorem dL_mark_4 : decode cL_mark 4 = .ok (.iload_n 2, 1) := by decide +kernel
theorem dL_mark_5 : decode cL_mark 5 = .ok (.invokevirtual 73, 3) := by decide +kernel
theorem dL_mark_8 : decode cL_mark 8 = .ok (.i2l, 1) := by decide +kernel
theorem dL_mark_9 : decode cL_mark 9 = .ok (.lastore, 1) := by decide +kernel
theorem dL_mark_10 : decode cL_mark 10 = .ok (.goto 7, 3) := by decide +kernel
theorem dL_mark_13 : decode cL_mark 13 = .ok (.astore 4, 2) := by decide +kernel
theorem dL_mark_15 : decode cL_mark 15 = .ok (.iconst 1, 1) := by decide +kernel
theorem dL_mark_16 : decode cL_mark 16 = .ok (.ireturn, 1) := by decide +kernel
theorem dL_mark_17 : decode cL_mark 17 = .ok (.iconst 0, 1) := by decide +kernel
theorem dL_mark_18 : decode cL_mark 18 = .ok (.ireturn, 1) := by decide +kernel
set_option maxRecDepth 20000 in
theorem ggL_markAnew_X9_markAnew : GoodIn wsL_markAnew wsX9_markAnew := goodIn_ca (goodIn_r _ [6, 7, 8, 9, 10, 11, 12, 13, 14, 15, 16, 17, 18, 19, 5, 20, 21, 22, 23, 24, 25, 26, 27, 28, 29, 30, 31, 32, 33, 34, 35, 36, 37, 38, 39, 40, 41, 42, 43, 44, 45, 46, 47, 48, 49, 50, 51, 52, 53, 54, 55, 56, 57, 58, 59, 60, 61, 62, 63, 64, 65, 66, 67, 68, 69, 70, 71, 72, 73, 74, 75, 76, 77, 78, 79, 80, 81, 82, 83, 84, 85, 86, 87, 88, 89, 90, 91, 92, 93, 94, 95, 96, 97, 98, 99, 100, 101, 102, 103, 104, 105, 106, 107, 108, 109, 110, 111, 112, 113, 114, 115, 116, 117, 118, 119, 120, 121, 122, 123, 124, 125, 126, 127, 128, 129, 130, 131, 132, 133, 134, 135, 136, 137, 138, 139, 140, 141, 142, 143, 144, 145, 146, 147, 148, 149, 150, 151, 152, 153, 154, 155, 156, 157, 158, 159, 160, 161, 162, 163, 164, 165, 166, 167, 168, 169, 170] (by decide +kernel) (by decide +kernel)) (goodIn_sub (fun _ h => List.mem_cons_of_mem _ (List.mem_append_right _ h)) (by decide +kernel))
set_option maxRecDepth 20000 in
theorem gL_markAnew_X9_markAnew : GoodIn wsL_markAnew (wsV RL 76 RX9 yX9_markAnew wsX9_markAnew) := goodIn_app (goodIn_of _ (by decide +kernel)) ggL_markAnew_X9_markAnew
theorem dL_markAnew_0 : decode cL_markAnew 0 = .ok (.aload_n 3, 1) := by decide +kernel
theorem dL_markAnew_1 : decode cL_markAnew 1 = .ok (.iconst 0, 1) := by decide +kernel
theorem dL_markAnew_2 : decode cL_markAnew 2 = .ok (.aload_n 0, 1) := by decide +kernel
theorem dL_markAnew_3 : decode cL_markAnew 3 = .ok (.iload_n 1, 1) := by decide +kernel
theorem dL_markAnew_4 : decode cL_markAnew 4 = .ok (.iload_n 2, 1) := by decide +kernel
theorem dL_markAnew_5 : decode cL_markAnew 5 = .ok (.invokevirtual 76, 3) := by decide +kernel
theorem dL_markAnew_8 : decode cL_markAnew 8 = .ok (.i2l, 1) := by decide +kernel
theorem dL_markAnew_9 : decode cL_markAnew 9 = .ok (.lastore, 1) := by decide +kernel
theorem dL_markAnew_10 : decode cL_markAnew 10 = .ok (.goto 7, 3) := by decide +kernel
theorem dL_markAnew_13 : decode cL_markAnew 13 = .ok (.astore 4, 2) := by decide +kernel
theorem dL_markAnew_15 : decode cL_markAnew 15 = .ok (.iconst 1, 1) := by decide +kernel
theorem dL_markAnew_16 : decode cL_markAnew 16 = .ok (.ireturn, 1) := by decide +kernel
theorem dL_markAnew_17 : decode cL_markAnew 17 = .ok (.iconst 0, 1) := by decide +kernel
theorem dL_markAnew_18 : decode cL_markAnew 18 = .ok (.ireturn, 1) := by decide +kernel
set_option maxRecDepth 20000 in
theorem ggL_answer_X9_answer : GoodIn wsL_answer wsX9_answer := goodIn_ca (goodIn_ca (goodIn_r _ [7, 8, 9, 10, 11, 12, 13, 14, 15, 16, 17, 18, 19, 20, 21, 22, 23, 6, 24, 25, 26, 27, 28, 29, 30, 31, 32, 33, 34, 35, 36, 37, 38, 39, 40, 41, 42, 43, 44, 45, 46, 47, 48, 49, 50, 51, 52, 53, 54, 55, 56, 57, 58, 59, 60, 61, 62, 63, 64, 65, 66, 67, 68, 69, 70, 71, 72, 73, 74, 75, 76, 77, 78, 79, 80, 81, 82, 83, 84, 85, 86, 87, 88, 89, 90, 91, 92, 93, 94, 95, 96, 97, 98, 99, 100, 101, 102, 103, 104, 105, 106, 107, 108, 109, 110, 111, 112, 113, 114, 115, 116, 117, 118, 119, 120, 121, 122, 123, 124, 125, 126, 127, 128, 129, 130, 131, 132, 133, 134, 135, 136, 137, 138, 139, 140, 141, 142, 143, 144, 145, 146, 147, 148, 149] (by decide +kernel) (by decide +kernel)) (goodIn_sub (fun _ h => List.mem_cons_of_mem _ (List.mem_append_left _ (List.mem_append_right _ h))) (by decide +kernel))) (goodIn_sub (fun _ h => List.mem_cons_of_mem _ (List.mem_append_right _ h)) (by decide +kernel))
set_option maxRecDepth 20000 in
theorem gL_answer_X9_answer : GoodIn wsL_answer (wsV RL 79 RX9 yX9_answer wsX9_answer) := goodIn_app (goodIn_of _ (by decide +kernel)) ggL_answer_X9_answer
theorem dL_answer_0 : decode cL_answer 0 = .ok (.aload 4, 2) := by decide +kernel
theorem dL_answer_2 : decode cL_answer 2 = .ok (.iconst 0, 1) := by decide +kernel
theorem dL_answer_3 : decode cL_answer 3 = .ok (.aload_n 0, 1) := by decide +kernel
theorem dL_answer_4 : decode cL_answer 4 = .ok (.iload_n 1, 1) := by decide +kernel
theorem dL_answer_5 : decode cL_answer 5 = .ok (.iload_n 2, 1) := by decide +kernel
theorem dL_answer_6 : decode cL_answer 6 = .ok (.iload_n 3, 1) := by decide +kernel
theorem dL_answer_7 : decode cL_answer 7 = .ok (.invokevirtual 79, 3) := by decide +kernel
theorem dL_answer_10 : decode cL_answer 10 = .ok (.i2l, 1) := by decide +kernel
theorem dL_answer_11 : decode cL_answer 11 = .ok (.lastore, 1) := by decide +kernel
theorem dL_answer_12 : decode cL_answer 12 = .ok (.goto 11, 3) := by decide +kernel
theorem dL_answer_15 : decode cL_answer 15 = .ok (.astore 5, 2) := by decide +kernel
theorem dL_answer_17 : decode cL_answer 17 = .ok (.iconst 1, 1) := by decide +kernel
theorem dL_answer_18 : decode cL_answer 18 = .ok (.ireturn, 1) := by decide +kernel
theorem dL_answer_19 : decode cL_answer 19 = .ok (.astore 5, 2) := by decide +kernel
theorem dL_answer_21 : decode cL_answer 21 = .ok (.iconst 2, 1) := by decide +kernel
theorem dL_answer_22 : decode cL_answer 22 = .ok (.ireturn, 1) := by decide +kernel
theorem dL_answer_23 : decode cL_answer 23 = .ok (.iconst 0, 1) := by decide +kernel
theorem dL_answer_24 : decode cL_answer 24 = .ok (.ireturn, 1) := by decide +kernel
set_option maxRecDepth 20000 in
theorem ggL_total_X9_total : GoodIn wsL_total wsX9_total := goodIn_ca (goodIn_r _ [6, 7, 8, 9, 10, 11, 12, 13, 14, 15, 16, 17, 18, 5, 19, 20, 21, 22, 23, 24, 25, 26, 27, 28, 29, 30, 31, 32, 33, 34, 35, 36, 37, 38, 39, 40, 41, 42, 43, 44, 45, 46, 47, 48, 49, 50, 51, 52, 53, 54, 55, 56, 57, 58, 59, 60, 61, 62, 63, 64, 65, 66, 67, 68, 69, 70, 71, 72, 73, 74, 75, 76, 77, 78, 79, 80, 81, 82, 83, 84, 85, 86, 87, 88, 89, 90, 91, 92, 93, 94, 95, 96, 97, 98, 99, 100, 101, 102, 103, 104, 105, 106, 107, 108, 109, 110, 111, 112, 113, 114, 115, 116, 117, 118, 119, 120, 121, 122, 123, 124, 125, 126, 127, 128, 129, 130, 131, 132, 133, 134, 135, 136, 137, 138, 139, 140, 141, 142, 143, 144, 145, 146, 147, 148] (by decide +kernel) (by decide +kernel)) (goodIn_sub (fun _ h => List.mem_cons_of_mem _ (List.mem_append_right _ h)) (by decide +kernel))
set_option maxRecDepth 20000 in
theorem gL_total_X9_total : GoodIn wsL_total (wsV RL 82 RX9 yX9_total wsX9_total) := goodIn_app (goodIn_of _ (by decide +kernel)) ggL_total_X9_total
theorem dL_total_0 : decode cL_total 0 = .ok (.aload_n 2, 1) := by decide +kernel
theorem dL_total_1 : decode cL_total 1 = .ok (.iconst 0, 1) := by decide +kernel
theorem dL_total_2 : decode cL_total 2 = .ok (.aload_n 0, 1) := by decide +kernel
theorem dL_total_3 : decode cL_total 3 = .ok (.iload_n 1, 1) := by decide +kernel
theorem dL_total_4 : decode cL_total 4 = .ok (.invokevirtual 82, 3) := by decide +kernel
theorem dL_total_7 : decode cL_total 7 = .ok (.i2l, 1) := by decide +kernel
theorem dL_total_8 : decode cL_total 8 = .ok (.lastore, 1) := by decide +kernel
theorem dL_total_9 : decode cL_total 9 = .ok (.goto 6, 3) := by decide +kernel
theorem dL_total_12 : decode cL_total 12 = .ok (.astore_n 3, 1) := by decide +kernel
theorem dL_total_13 : decode cL_total 13 = .ok (.iconst 1, 1) := by decide +kernel
theorem dL_total_14 : decode cL_total 14 = .ok (.ireturn, 1) := by decide +kernel
theorem dL_total_15 : decode cL_total 15 = .ok (.iconst 0, 1) := by decide +kernel
theorem dL_total_16 : decode cL_total 16 = .ok (.ireturn, 1) := by decide +kernel
set_option maxRecDepth 20000 in
theorem ggL_grade_X9_grade : GoodIn wsL_grade wsX9_grade := goodIn_ca (goodIn_r _ [6, 7, 8, 9, 10, 11, 12, 13, 14, 15, 16, 17, 18, 19, 20, 21, 22, 23, 24, 25, 5, 26, 27, 28, 29, 30, 31, 32, 33, 34, 35, 36, 37, 38, 39, 40, 41, 42, 43, 44, 45, 46, 47, 48, 49, 50, 51, 52, 53, 54, 55, 56, 57, 58, 59, 60, 61, 62, 63, 64, 65, 66, 67, 68, 69, 70, 71, 72, 73, 74, 75, 76, 77, 78, 79, 80, 81, 82, 83, 84, 85, 86, 87, 88, 89, 90, 91, 92, 93, 94, 95, 96, 97, 98, 99, 100, 101, 102, 103, 104, 105, 106, 107, 108, 109, 110, 111, 112, 113, 114, 115, 116, 117, 118, 119, 120, 121, 122, 123, 124, 125, 126, 127, 128, 129, 130, 131, 132, 133, 134, 135, 136, 137, 138, 139, 140, 141, 142, 143, 144, 145, 146, 147, 148, 149, 150, 151, 152, 153, 154, 155, 156] (by decide +kernel) (by decide +kernel)) (goodIn_sub (fun _ h => List.mem_cons_of_mem _ (List.mem_append_right _ h)) (by decide +kernel))
set_option maxRecDepth 20000 in
theorem gL_grade_X9_grade : GoodIn wsL_grade (wsV RL 85 RX9 yX9_grade wsX9_grade) := goodIn_app (goodIn_of _ (by decide +kernel)) ggL_grade_X9_grade
theorem dL_grade_0 : decode cL_grade 0 = .ok (.aload_n 3, 1) := by decide +kernel
theorem dL_grade_1 : decode cL_grade 1 = .ok (.iconst 0, 1) := by decide +kernel
theorem dL_grade_2 : decode cL_grade 2 = .ok (.aload_n 0, 1) := by decide +kernel
theorem dL_grade_3 : decode cL_grade 3 = .ok (.iload_n 1, 1) := by decide +kernel
theorem dL_grade_4 : decode cL_grade 4 = .ok (.iload_n 2, 1) := by decide +kernel
theorem dL_grade_5 : decode cL_grade 5 = .ok (.invokevirtual 85, 3) := by decide +kernel
theorem dL_grade_8 : decode cL_grade 8 = .ok (.i2l, 1) := by decide +kernel
theorem dL_grade_9 : decode cL_grade 9 = .ok (.lastore, 1) := by decide +kernel
theorem dL_grade_10 : decode cL_grade 10 = .ok (.goto 7, 3) := by decide +kernel
theorem dL_grade_13 : decode cL_grade 13 = .ok (.astore 4, 2) := by decide +kernel
theorem dL_grade_15 : decode cL_grade 15 = .ok (.iconst 1, 1) := by decide +kernel
theorem dL_grade_16 : decode cL_grade 16 = .ok (.ireturn, 1) := by decide +kernel
theorem dL_grade_17 : decode cL_grade 17 = .ok (.iconst 0, 1) := by decide +kernel
theorem dL_grade_18 : decode cL_grade 18 = .ok (.ireturn, 1) := by decide +kernel
set_option maxRecDepth 20000 in
theorem ggL_lineOf_X9_lineOf : GoodIn wsL_lineOf wsX9_lineOf := goodIn_ca (goodIn_r _ [6, 7, 8, 9, 10, 11, 12, 5, 13, 14, 15, 16, 17, 18, 19, 20, 21, 22, 23, 24, 25, 26, 27, 28, 29, 30, 31, 32, 33, 34, 35, 36, 37, 38, 39, 40, 41, 42, 43, 44, 45, 46, 47, 48, 49, 50, 51, 52, 53, 54, 55, 56, 57, 58, 59, 60, 61, 62, 63, 64, 65, 66, 67, 68, 69, 70, 71, 72, 73, 74, 75, 76, 77, 78, 79, 80, 81, 82, 83, 84, 85, 86, 87, 88, 89, 90, 91, 92, 93, 94, 95, 96, 97, 98, 99, 100, 101, 102, 103, 104, 105, 106, 107, 108, 109, 110, 111, 112, 113, 114, 115, 116, 117, 118, 119, 120, 121, 122, 123, 124, 125, 126, 127, 128, 129, 130, 131, 132, 133, 134, 135, 136, 137, 138, 139, 140, 141, 142, 143, 144, 145, 146, 147, 148, 149, 150, 151, 152, 153, 154, 155, 156, 157, 158, 159, 160, 161] (by decide +kernel) (by decide +kernel)) (goodIn_sub (fun _ h => List.mem_cons_of_mem _ (List.mem_append_right _ h)) (by decide +kernel))
set_option maxRecDepth 20000 in
theorem gL_lineOf_X9_lineOf : GoodIn wsL_lineOf (wsV RL 89 RX9 yX9_lineOf wsX9_lineOf) := goodIn_app (goodIn_of _ (by decide +kernel)) ggL_lineOf_X9_lineOf
theorem dL_lineOf_0 : decode cL_lineOf 0 = .ok (.aload_n 2, 1) := by decide +kernel
theorem dL_lineOf_1 : decode cL_lineOf 1 = .ok (.iconst 0, 1) := by decide +kernel
theorem dL_lineOf_2 : decode cL_lineOf 2 = .ok (.aload_n 0, 1) := by decide +kernel
theorem dL_lineOf_3 : decode cL_lineOf 3 = .ok (.iload_n 1, 1) := by decide +kernel
theorem dL_lineOf_4 : decode cL_lineOf 4 = .ok (.invokevirtual 89, 3) := by decide +kernel
theorem dL_lineOf_7 : decode cL_lineOf 7 = .ok (.i2l, 1) := by decide +kernel
theorem dL_lineOf_8 : decode cL_lineOf 8 = .ok (.lastore, 1) := by decide +kernel
theorem dL_lineOf_9 : decode cL_lineOf 9 = .ok (.goto 6, 3) := by decide +kernel
theorem dL_lineOf_12 : decode cL_lineOf 12 = .ok (.astore_n 3, 1) := by decide +kernel
theorem dL_lineOf_13 : decode cL_lineOf 13 = .ok (.iconst 1, 1) := by decide +kernel
theorem dL_lineOf_14 : decode cL_lineOf 14 = .ok (.ireturn, 1) := by decide +kernel
theorem dL_lineOf_15 : decode cL_lineOf 15 = .ok (.iconst 0, 1) := by decide +kernel
theorem dL_lineOf_16 : decode cL_lineOf 16 = .ok (.ireturn, 1) := by decide +kernel
set_option maxRecDepth 20000 in
theorem ggL_lineAnew_X9_lineAnew : GoodIn wsL_lineAnew wsX9_lineAnew := goodIn_ca (goodIn_r _ [6, 7, 8, 9, 10, 11, 5, 12, 13, 14, 15, 16, 17, 18, 19, 20, 21, 22, 23, 24, 25, 26, 27, 28, 29, 30, 31, 32, 33, 34, 35, 36, 37, 38, 39, 40, 41, 42, 43, 44, 45, 46, 47, 48, 49, 50, 51, 52, 53, 54, 55, 56, 57, 58, 59, 60, 61, 62, 63, 64, 65, 66, 67, 68, 69, 70, 71, 72, 73, 74, 75, 76, 77, 78, 79, 80, 81, 82, 83, 84, 85, 86, 87, 88, 89, 90, 91, 92, 93, 94, 95, 96, 97, 98, 99, 100, 101, 102, 103, 104, 105, 106, 107, 108, 109, 110, 111, 112, 113, 114, 115, 116, 117, 118, 119, 120, 121, 122, 123, 124, 125, 126, 127, 128, 129, 130, 131, 132, 133, 134, 135, 136, 137, 138, 139, 140, 141, 142, 143, 144, 145, 146, 147, 148, 149, 150, 151, 152, 153, 154, 155, 156, 157, 158, 159, 160, 161] (by decide +kernel) (by decide +kernel)) (goodIn_sub (fun _ h => List.mem_cons_of_mem _ (List.mem_append_right _ h)) (by decide +kernel))
set_option maxRecDepth 20000 in
theorem gL_lineAnew_X9_lineAnew : GoodIn wsL_lineAnew (wsV RL 92 RX9 yX9_lineAnew wsX9_lineAnew) := goodIn_app (goodIn_of _ (by decide +kernel)) ggL_lineAnew_X9_lineAnew
theorem dL_lineAnew_0 : decode cL_lineAnew 0 = .ok (.aload_n 2, 1) := by decide +kernel
theorem dL_lineAnew_1 : decode cL_lineAnew 1 = .ok (.iconst 0, 1) := by decide +kernel
theorem dL_lineAnew_2 : decode cL_lineAnew 2 = .ok (.aload_n 0, 1) := by decide +kernel
theorem dL_lineAnew_3 : decode cL_lineAnew 3 = .ok (.iload_n 1, 1) := by decide +kernel
theorem dL_lineAnew_4 : decode cL_lineAnew 4 = .ok (.invokevirtual 92, 3) := by decide +kernel
theorem dL_lineAnew_7 : decode cL_lineAnew 7 = .ok (.i2l, 1) := by decide +kernel
theorem dL_lineAnew_8 : decode cL_lineAnew 8 = .ok (.lastore, 1) := by decide +kernel
theorem dL_lineAnew_9 : decode cL_lineAnew 9 = .ok (.goto 6, 3) := by decide +kernel
theorem dL_lineAnew_12 : decode cL_lineAnew 12 = .ok (.astore_n 3, 1) := by decide +kernel
theorem dL_lineAnew_13 : decode cL_lineAnew 13 = .ok (.iconst 1, 1) := by decide +kernel
theorem dL_lineAnew_14 : decode cL_lineAnew 14 = .ok (.ireturn, 1) := by decide +kernel
theorem dL_lineAnew_15 : decode cL_lineAnew 15 = .ok (.iconst 0, 1) := by decide +kernel
theorem dL_lineAnew_16 : decode cL_lineAnew 16 = .ok (.ireturn, 1) := by decide +kernel
set_option maxRecDepth 20000 in
theorem ggL_ofReader_X9_ofReader : GoodIn wsL_ofReader wsX9_ofReader := goodIn_ca (goodIn_ca (goodIn_r _ [7, 8, 9, 10, 11, 12, 13, 14, 15, 16, 17, 18, 19, 20, 21, 22, 23, 24, 25, 26, 27, 28, 29, 30, 31, 32, 33, 34, 35, 36, 37, 38, 39, 40, 41, 42, 43, 44, 45, 46, 47, 48, 49, 50, 51, 52, 53, 54, 55, 56, 57, 58, 59, 60, 61, 62, 63, 64, 65, 66] (by decide +kernel) (by decide +kernel)) (goodIn_sub (fun _ h => List.mem_cons_of_mem _ (List.mem_append_left _ (List.mem_append_right _ h))) (by decide +kernel))) (goodIn_sub (fun _ h => List.mem_cons_of_mem _ (List.mem_append_right _ h)) (by decide +kernel))
set_option maxRecDepth 20000 in
theorem gL_ofReader_X9_ofReader : GoodIn wsL_ofReader (wsV RL 95 RX9 yX9_ofReader wsX9_ofReader) := goodIn_app (goodIn_of _ (by decide +kernel)) ggL_ofReader_X9_ofReader
theorem dL_ofReader_0 : decode cL_ofReader 0 = .ok (.aload_n 3, 1) := by decide +kernel
theorem dL_ofReader_1 : decode cL_ofReader 1 = .ok (.iconst 0, 1) := by decide +kernel
theorem dL_ofReader_2 : decode cL_ofReader 2 = .ok (.aload_n 0, 1) := by decide +kernel
theorem dL_ofReader_3 : decode cL_ofReader 3 = .ok (.iload_n 1, 1) := by decide +kernel
theorem dL_ofReader_4 : decode cL_ofReader 4 = .ok (.iload_n 2, 1) := by decide +kernel
theorem dL_ofReader_5 : decode cL_ofReader 5 = .ok (.invokevirtual 95, 3) := by decide +kernel
theorem dL_ofReader_8 : decode cL_ofReader 8 = .ok (.i2l, 1) := by decide +kernel
theorem dL_ofReader_9 : decode cL_ofReader 9 = .ok (.lastore, 1) := by decide +kernel
theorem dL_ofReader_10 : decode cL_ofReader 10 = .ok (.goto 11, 3) := by decide +kernel
theorem dL_ofReader_13 : decode cL_ofReader 13 = .ok (.astore 4, 2) := by decide +kernel
theorem dL_ofReader_15 : decode cL_ofReader 15 = .ok (.iconst 1, 1) := by decide +kernel
theorem dL_ofReader_16 : decode cL_ofReader 16 = .ok (.ireturn, 1) := by decide +kernel
theorem dL_ofReader_17 : decode cL_ofReader 17 = .ok (.astore 4, 2) := by decide +kernel
theorem dL_ofReader_19 : decode cL_ofReader 19 = .ok (.iconst 2, 1) := by decide +kernel
theorem dL_ofReader_20 : decode cL_ofReader 20 = .ok (.ireturn, 1) := by decide +kernel
theorem dL_ofReader_21 : decode cL_ofReader 21 = .ok (.iconst 0, 1) := by decide +kernel
theorem dL_ofReader_22 : decode cL_ofReader 22 = .ok (.ireturn, 1) := by decide +kernel
