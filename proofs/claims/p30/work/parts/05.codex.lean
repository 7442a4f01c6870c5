set_option maxRecDepth 20000 in
theorem ggX0_init_X5_init : GoodIn wsX0_init wsX5_init := goodIn_r _ [10, 11, 2, 3, 12, 13, 14, 15, 16, 17, 18] (by decide +kernel) (by decide +kernel)
set_option maxRecDepth 20000 in
theorem gX0_init_X5_init : GoodIn wsX0_init (wsX5_init) := ggX0_init_X5_init
theorem dX0_init_0 : decode cX0_init 0 = .ok (.aload_n 0, 1) := by decide +kernel
theorem dX0_init_1 : decode cX0_init 1 = .ok (.invokespecial 5, 3) := by decide +kernel
theorem dX0_init_4 : decode cX0_init 4 = .ok (.aload_n 0, 1) := by decide +kernel
theorem dX0_init_5 : decode cX0_init 5 = .ok (.new 11, 3) := by decide +kernel
theorem dX0_init_8 : decode cX0_init 8 = .ok (.dup, 1) := by decide +kernel
theorem dX0_init_9 : decode cX0_init 9 = .ok (.bipush 80, 2) := by decide +kernel
theorem dX0_init_11 : decode cX0_init 11 = .ok (.invokespecial 15, 3) := by decide +kernel
theorem dX0_init_14 : decode cX0_init 14 = .ok (.putfield 18, 3) := by decide +kernel
theorem dX0_init_17 : decode cX0_init 17 = .ok (.return_, 1) := by decide +kernel
set_option maxRecDepth 20000 in
theorem ggX0_faultOf_X0_begin : GoodIn wsX0_faultOf wsX0_begin := goodIn_r _ [9, 10, 11, 12, 4, 3, 54, 55, 56, 57, 58, 59] (by decide +kernel) (by decide +kernel)
set_option maxRecDepth 20000 in
theorem gX0_faultOf_X0_begin : GoodIn wsX0_faultOf (wsV RX0 22 RX0 yX0_begin wsX0_begin) := goodIn_app (goodIn_of _ (by decide +kernel)) ggX0_faultOf_X0_begin
set_option maxRecDepth 20000 in
theorem ggX0_faultOf_X5_get : GoodIn wsX0_faultOf wsX5_get := goodIn_r _ [17, 18, 60] (by decide +kernel) (by decide +kernel)
set_option maxRecDepth 20000 in
theorem gX0_faultOf_X5_get : GoodIn wsX0_faultOf (wsV RX0 30 RX5 yX5_get wsX5_get) := goodIn_app (goodIn_of _ (by decide +kernel)) ggX0_faultOf_X5_get
set_option maxRecDepth 20000 in
theorem ggX0_faultOf_X0_takes : GoodIn wsX0_faultOf wsX0_takes := goodIn_r _ [22, 3, 12, 23, 24, 25, 8, 26, 27, 10, 28, 29, 30, 16, 31, 18, 32, 33, 34, 35, 36, 37, 38, 39, 11, 4, 40, 41, 42, 43, 44, 45, 46, 47, 54, 55, 56, 57, 58, 59, 60] (by decide +kernel) (by decide +kernel)
set_option maxRecDepth 20000 in
theorem gX0_faultOf_X0_takes : GoodIn wsX0_faultOf (wsV RX0 34 RX0 yX0_takes wsX0_takes) := goodIn_app (goodIn_of _ (by decide +kernel)) ggX0_faultOf_X0_takes
set_option maxRecDepth 20000 in
theorem ggX0_faultOf_X0_writeNumber : GoodIn wsX0_faultOf wsX0_writeNumber := goodIn_r _ [51, 12, 23, 24, 25, 8, 26, 27, 10, 28, 29, 30, 16, 31, 18, 54, 55, 56, 57, 58, 59, 60] (by decide +kernel) (by decide +kernel)
set_option maxRecDepth 20000 in
theorem gX0_faultOf_X0_writeNumber : GoodIn wsX0_faultOf (wsV RX0 44 RX0 yX0_writeNumber wsX0_writeNumber) := goodIn_app (goodIn_of _ (by decide +kernel)) ggX0_faultOf_X0_writeNumber
theorem dX0_faultOf_0 : decode cX0_faultOf 0 = .ok (.aload_n 0, 1) := by decide +kernel
theorem dX0_faultOf_1 : decode cX0_faultOf 1 = .ok (.invokevirtual 22, 3) := by decide +kernel
theorem dX0_faultOf_4 : decode cX0_faultOf 4 = .ok (.iconst 0, 1) := by decide +kernel
theorem dX0_faultOf_5 : decode cX0_faultOf 5 = .ok (.istore_n 2, 1) := by decide +kernel
theorem dX0_faultOf_6 : decode cX0_faultOf 6 = .ok (.iload_n 2, 1) := by decide +kernel
theorem dX0_faultOf_7 : decode cX0_faultOf 7 = .ok (.aload_n 1, 1) := by decide +kernel
theorem dX0_faultOf_8 : decode cX0_faultOf 8 = .ok (.getfield 25, 3) := by decide +kernel
theorem dX0_faultOf_11 : decode cX0_faultOf 11 = .ok (.if_icmp .ge 26, 3) := by decide +kernel
theorem dX0_faultOf_14 : decode cX0_faultOf 14 = .ok (.aload_n 0, 1) := by decide +kernel
theorem dX0_faultOf_15 : decode cX0_faultOf 15 = .ok (.aload_n 1, 1) := by decide +kernel
theorem dX0_faultOf_16 : decode cX0_faultOf 16 = .ok (.getfield 29, 3) := by decide +kernel
theorem dX0_faultOf_19 : decode cX0_faultOf 19 = .ok (.iload_n 2, 1) := by decide +kernel
theorem dX0_faultOf_20 : decode cX0_faultOf 20 = .ok (.invokevirtual 30, 3) := by decide +kernel
theorem dX0_faultOf_23 : decode cX0_faultOf 23 = .ok (.invokevirtual 34, 3) := by decide +kernel
theorem dX0_faultOf_26 : decode cX0_faultOf 26 = .ok (.ifCond .ne 5, 3) := by decide +kernel
theorem dX0_faultOf_29 : decode cX0_faultOf 29 = .ok (.iload_n 2, 1) := by decide +kernel
theorem dX0_faultOf_30 : decode cX0_faultOf 30 = .ok (.ireturn, 1) := by decide +kernel
theorem dX0_faultOf_31 : decode cX0_faultOf 31 = .ok (.iinc 2 1, 3) := by decide +kernel
theorem dX0_faultOf_34 : decode cX0_faultOf 34 = .ok (.goto (-28), 3) := by decide +kernel
theorem dX0_faultOf_37 : decode cX0_faultOf 37 = .ok (.aload_n 0, 1) := by decide +kernel
theorem dX0_faultOf_38 : decode cX0_faultOf 38 = .ok (.getfield 38, 3) := by decide +kernel
theorem dX0_faultOf_41 : decode cX0_faultOf 41 = .ok (.iconst 2, 1) := by decide +kernel
theorem dX0_faultOf_42 : decode cX0_faultOf 42 = .ok (.if_icmp .ne 10, 3) := by decide +kernel
theorem dX0_faultOf_45 : decode cX0_faultOf 45 = .ok (.aload_n 0, 1) := by decide +kernel
theorem dX0_faultOf_46 : decode cX0_faultOf 46 = .ok (.getfield 41, 3) := by decide +kernel
theorem dX0_faultOf_49 : decode cX0_faultOf 49 = .ok (.ifCond .eq 19, 3) := by decide +kernel
theorem dX0_faultOf_52 : decode cX0_faultOf 52 = .ok (.aload_n 0, 1) := by decide +kernel
theorem dX0_faultOf_53 : decode cX0_faultOf 53 = .ok (.getfield 38, 3) := by decide +kernel
theorem dX0_faultOf_56 : decode cX0_faultOf 56 = .ok (.iconst 4, 1) := by decide +kernel
theorem dX0_faultOf_57 : decode cX0_faultOf 57 = .ok (.if_icmp .eq 11, 3) := by decide +kernel
theorem dX0_faultOf_60 : decode cX0_faultOf 60 = .ok (.aload_n 0, 1) := by decide +kernel
theorem dX0_faultOf_61 : decode cX0_faultOf 61 = .ok (.getfield 38, 3) := by decide +kernel
theorem dX0_faultOf_64 : decode cX0_faultOf 64 = .ok (.iconst 5, 1) := by decide +kernel
theorem dX0_faultOf_65 : decode cX0_faultOf 65 = .ok (.if_icmp .ne 7, 3) := by decide +kernel
theorem dX0_faultOf_68 : decode cX0_faultOf 68 = .ok (.iconst 1, 1) := by decide +kernel
theorem dX0_faultOf_69 : decode cX0_faultOf 69 = .ok (.goto 4, 3) := by decide +kernel
theorem dX0_faultOf_72 : decode cX0_faultOf 72 = .ok (.iconst 0, 1) := by decide +kernel
theorem dX0_faultOf_73 : decode cX0_faultOf 73 = .ok (.istore_n 2, 1) := by decide +kernel
theorem dX0_faultOf_74 : decode cX0_faultOf 74 = .ok (.iload_n 2, 1) := by decide +kernel
theorem dX0_faultOf_75 : decode cX0_faultOf 75 = .ok (.ifCond .ne 8, 3) := by decide +kernel
theorem dX0_faultOf_78 : decode cX0_faultOf 78 = .ok (.aload_n 1, 1) := by decide +kernel
theorem dX0_faultOf_79 : decode cX0_faultOf 79 = .ok (.getfield 25, 3) := by decide +kernel
theorem dX0_faultOf_82 : decode cX0_faultOf 82 = .ok (.ireturn, 1) := by decide +kernel
theorem dX0_faultOf_83 : decode cX0_faultOf 83 = .ok (.aload_n 0, 1) := by decide +kernel
theorem dX0_faultOf_84 : decode cX0_faultOf 84 = .ok (.invokevirtual 44, 3) := by decide +kernel
theorem dX0_faultOf_87 : decode cX0_faultOf 87 = .ok (.iconst (-1), 1) := by decide +kernel
theorem dX0_faultOf_88 : decode cX0_faultOf 88 = .ok (.ireturn, 1) := by decide +kernel
theorem dX0_begin_0 : decode cX0_begin 0 = .ok (.aload_n 0, 1) := by decide +kernel
theorem dX0_begin_1 : decode cX0_begin 1 = .ok (.iconst 0, 1) := by decide +kernel
theorem dX0_begin_2 : decode cX0_begin 2 = .ok (.putfield 47, 3) := by decide +kernel
theorem dX0_begin_5 : decode cX0_begin 5 = .ok (.aload_n 0, 1) := by decide +kernel
theorem dX0_begin_6 : decode cX0_begin 6 = .ok (.iconst 0, 1) := by decide +kernel
theorem dX0_begin_7 : decode cX0_begin 7 = .ok (.putfield 48, 3) := by decide +kernel
theorem dX0_begin_10 : decode cX0_begin 10 = .ok (.aload_n 0, 1) := by decide +kernel
theorem dX0_begin_11 : decode cX0_begin 11 = .ok (.iconst (-1), 1) := by decide +kernel
theorem dX0_begin_12 : decode cX0_begin 12 = .ok (.putfield 51, 3) := by decide +kernel
theorem dX0_begin_15 : decode cX0_begin 15 = .ok (.aload_n 0, 1) := by decide +kernel
theorem dX0_begin_16 : decode cX0_begin 16 = .ok (.iconst 0, 1) := by decide +kernel
theorem dX0_begin_17 : decode cX0_begin 17 = .ok (.putfield 41, 3) := by decide +kernel
theorem dX0_begin_20 : decode cX0_begin 20 = .ok (.aload_n 0, 1) := by decide +kernel
theorem dX0_begin_21 : decode cX0_begin 21 = .ok (.iconst 0, 1) := by decide +kernel
theorem dX0_begin_22 : decode cX0_begin 22 = .ok (.putfield 38, 3) := by decide +kernel
theorem dX0_begin_25 : decode cX0_begin 25 = .ok (.return_, 1) := by decide +kernel
set_option maxRecDepth 20000 in
theorem ggX0_takes_X0_write : GoodIn wsX0_takes wsX0_write := goodIn_r _ [7, 8, 9, 10, 11, 12, 13, 14, 15, 34, 35, 36, 37, 38, 39, 40] (by decide +kernel) (by decide +kernel)
set_option maxRecDepth 20000 in
theorem gX0_takes_X0_write : GoodIn wsX0_takes (wsV RX0 54 RX0 yX0_write wsX0_write) := goodIn_app (goodIn_of _ (by decide +kernel)) ggX0_takes_X0_write
set_option maxRecDepth 20000 in
theorem ggX0_takes_X0_goesTo : GoodIn wsX0_takes wsX0_goesTo := goodIn_r _ [19, 1, 3, 4, 5, 6, 7, 8, 9, 10, 11, 12, 13, 14, 15, 34, 35, 36, 37, 38, 39, 40] (by decide +kernel) (by decide +kernel)
set_option maxRecDepth 20000 in
theorem gX0_takes_X0_goesTo : GoodIn wsX0_takes (wsV RX0 57 RX0 yX0_goesTo wsX0_goesTo) := goodIn_app (goodIn_of _ (by decide +kernel)) ggX0_takes_X0_goesTo
set_option maxRecDepth 20000 in
theorem ggX0_takes_X0_takesAtHead : GoodIn wsX0_takes wsX0_takesAtHead := goodIn_r _ [23, 24, 25, 16, 17, 18, 6, 19, 1, 3, 4, 5, 7, 8, 9, 10, 11, 12, 13, 14, 15, 34, 35, 36, 37, 38, 39, 40] (by decide +kernel) (by decide +kernel)
set_option maxRecDepth 20000 in
theorem gX0_takes_X0_takesAtHead : GoodIn wsX0_takes (wsV RX0 61 RX0 yX0_takesAtHead wsX0_takesAtHead) := goodIn_app (goodIn_of _ (by decide +kernel)) ggX0_takes_X0_takesAtHead
set_option maxRecDepth 20000 in
theorem ggX0_takes_X0_takesBehindPart : GoodIn wsX0_takes wsX0_takesBehindPart := goodIn_r _ [29, 25, 16, 17, 18, 6, 19, 1, 3, 4, 5, 7, 8, 9, 10, 11, 12, 13, 14, 15, 34, 35, 36, 37, 38, 39, 40] (by decide +kernel) (by decide +kernel)
set_option maxRecDepth 20000 in
theorem gX0_takes_X0_takesBehindPart : GoodIn wsX0_takes (wsV RX0 64 RX0 yX0_takesBehindPart wsX0_takesBehindPart) := goodIn_app (goodIn_of _ (by decide +kernel)) ggX0_takes_X0_takesBehindPart
set_option maxRecDepth 20000 in
theorem ggX0_takes_X0_takesInNumber : GoodIn wsX0_takes wsX0_takesInNumber := goodIn_r _ [33, 2, 1, 34, 35, 36, 37, 38, 39] (by decide +kernel) (by decide +kernel)
set_option maxRecDepth 20000 in
theorem gX0_takes_X0_takesInNumber : GoodIn wsX0_takes (wsV RX0 67 RX0 yX0_takesInNumber wsX0_takesInNumber) := goodIn_app (goodIn_of _ (by decide +kernel)) ggX0_takes_X0_takesInNumber
theorem dX0_takes_0 : decode cX0_takes 0 = .ok (.aload_n 0, 1) := by decide +kernel
theorem dX0_takes_1 : decode cX0_takes 1 = .ok (.getfield 38, 3) := by decide +kernel
theorem dX0_takes_4 : decode cX0_takes 4 = .ok (.ifCond .ne 26, 3) := by decide +kernel
theorem dX0_takes_7 : decode cX0_takes 7 = .ok (.iload_n 1, 1) := by decide +kernel
theorem dX0_takes_8 : decode cX0_takes 8 = .ok (.bipush 49, 2) := by decide +kernel
theorem dX0_takes_10 : decode cX0_takes 10 = .ok (.if_icmp .lt 9, 3) := by decide +kernel
theorem dX0_takes_13 : decode cX0_takes 13 = .ok (.iload_n 1, 1) := by decide +kernel
theorem dX0_takes_14 : decode cX0_takes 14 = .ok (.bipush 57, 2) := by decide +kernel
theorem dX0_takes_16 : decode cX0_takes 16 = .ok (.if_icmp .le 14, 3) := by decide +kernel
theorem dX0_takes_19 : decode cX0_takes 19 = .ok (.aload_n 0, 1) := by decide +kernel
theorem dX0_takes_20 : decode cX0_takes 20 = .ok (.bipush 49, 2) := by decide +kernel
theorem dX0_takes_22 : decode cX0_takes 22 = .ok (.invokevirtual 54, 3) := by decide +kernel
theorem dX0_takes_25 : decode cX0_takes 25 = .ok (.aload_n 0, 1) := by decide +kernel
theorem dX0_takes_26 : decode cX0_takes 26 = .ok (.iconst 1, 1) := by decide +kernel
theorem dX0_takes_27 : decode cX0_takes 27 = .ok (.putfield 38, 3) := by decide +kernel
theorem dX0_takes_30 : decode cX0_takes 30 = .ok (.aload_n 0, 1) := by decide +kernel
theorem dX0_takes_31 : decode cX0_takes 31 = .ok (.getfield 38, 3) := by decide +kernel
theorem dX0_takes_34 : decode cX0_takes 34 = .ok (.tableswitch 72 0 4 #[34, 41, 47, 53, 61], 34) := by decide +kernel
theorem dX0_takes_68 : decode cX0_takes 68 = .ok (.aload_n 0, 1) := by decide +kernel
theorem dX0_takes_69 : decode cX0_takes 69 = .ok (.iconst 1, 1) := by decide +kernel
theorem dX0_takes_70 : decode cX0_takes 70 = .ok (.iload_n 1, 1) := by decide +kernel
theorem dX0_takes_71 : decode cX0_takes 71 = .ok (.invokevirtual 57, 3) := by decide +kernel
theorem dX0_takes_74 : decode cX0_takes 74 = .ok (.ireturn, 1) := by decide +kernel
theorem dX0_takes_75 : decode cX0_takes 75 = .ok (.aload_n 0, 1) := by decide +kernel
theorem dX0_takes_76 : decode cX0_takes 76 = .ok (.iload_n 1, 1) := by decide +kernel
theorem dX0_takes_77 : decode cX0_takes 77 = .ok (.invokevirtual 61, 3) := by decide +kernel
theorem dX0_takes_80 : decode cX0_takes 80 = .ok (.ireturn, 1) := by decide +kernel
theorem dX0_takes_81 : decode cX0_takes 81 = .ok (.aload_n 0, 1) := by decide +kernel
theorem dX0_takes_82 : decode cX0_takes 82 = .ok (.iload_n 1, 1) := by decide +kernel
theorem dX0_takes_83 : decode cX0_takes 83 = .ok (.invokevirtual 64, 3) := by decide +kernel
theorem dX0_takes_86 : decode cX0_takes 86 = .ok (.ireturn, 1) := by decide +kernel
theorem dX0_takes_87 : decode cX0_takes 87 = .ok (.aload_n 0, 1) := by decide +kernel
theorem dX0_takes_88 : decode cX0_takes 88 = .ok (.iload_n 1, 1) := by decide +kernel
theorem dX0_takes_89 : decode cX0_takes 89 = .ok (.iconst 0, 1) := by decide +kernel
theorem dX0_takes_90 : decode cX0_takes 90 = .ok (.iconst 4, 1) := by decide +kernel
theorem dX0_takes_91 : decode cX0_takes 91 = .ok (.invokevirtual 67, 3) := by decide +kernel
theorem dX0_takes_94 : decode cX0_takes 94 = .ok (.ireturn, 1) := by decide +kernel
theorem dX0_takes_95 : decode cX0_takes 95 = .ok (.aload_n 0, 1) := by decide +kernel
theorem dX0_takes_96 : decode cX0_takes 96 = .ok (.iload_n 1, 1) := by decide +kernel
theorem dX0_takes_97 : decode cX0_takes 97 = .ok (.aload_n 0, 1) := by decide +kernel
theorem dX0_takes_98 : decode cX0_takes 98 = .ok (.getfield 51, 3) := by decide +kernel
theorem dX0_takes_101 : decode cX0_takes 101 = .ok (.iconst 5, 1) := by decide +kernel
theorem dX0_takes_102 : decode cX0_takes 102 = .ok (.invokevirtual 67, 3) := by decide +kernel
theorem dX0_takes_105 : decode cX0_takes 105 = .ok (.ireturn, 1) := by decide +kernel
theorem dX0_takes_106 : decode cX0_takes 106 = .ok (.iconst 0, 1) := by decide +kernel
theorem dX0_takes_107 : decode cX0_takes 107 = .ok (.ireturn, 1) := by decide +kernel
set_option maxRecDepth 20000 in
theorem ggX0_takesAtHead_X0_goesTo : GoodIn wsX0_takesAtHead wsX0_goesTo := goodIn_r _ [7, 8, 9, 10, 11, 6, 12, 13, 14, 15, 16, 17, 18, 19, 20, 21, 22, 23, 24, 25, 26, 27] (by decide +kernel) (by decide +kernel)
set_option maxRecDepth 20000 in
theorem gX0_takesAtHead_X0_goesTo : GoodIn wsX0_takesAtHead (wsV RX0 57 RX0 yX0_goesTo wsX0_goesTo) := goodIn_app (goodIn_of _ (by decide +kernel)) ggX0_takesAtHead_X0_goesTo
theorem dX0_takesAtHead_0 : decode cX0_takesAtHead 0 = .ok (.iload_n 1, 1) := by decide +kernel
theorem dX0_takesAtHead_1 : decode cX0_takesAtHead 1 = .ok (.bipush 97, 2) := by decide +kernel
theorem dX0_takesAtHead_3 : decode cX0_takesAtHead 3 = .ok (.if_icmp .lt 31, 3) := by decide +kernel
theorem dX0_takesAtHead_6 : decode cX0_takesAtHead 6 = .ok (.iload_n 1, 1) := by decide +kernel
theorem dX0_takesAtHead_7 : decode cX0_takesAtHead 7 = .ok (.bipush 104, 2) := by decide +kernel
theorem dX0_takesAtHead_9 : decode cX0_takesAtHead 9 = .ok (.if_icmp .gt 25, 3) := by decide +kernel
theorem dX0_takesAtHead_12 : decode cX0_takesAtHead 12 = .ok (.aload_n 0, 1) := by decide +kernel
theorem dX0_takesAtHead_13 : decode cX0_takesAtHead 13 = .ok (.dup, 1) := by decide +kernel
theorem dX0_takesAtHead_14 : decode cX0_takesAtHead 14 = .ok (.getfield 48, 3) := by decide +kernel
theorem dX0_takesAtHead_17 : decode cX0_takesAtHead 17 = .ok (.iconst 1, 1) := by decide +kernel
theorem dX0_takesAtHead_18 : decode cX0_takesAtHead 18 = .ok (.iload_n 1, 1) := by decide +kernel
theorem dX0_takesAtHead_19 : decode cX0_takesAtHead 19 = .ok (.bipush 97, 2) := by decide +kernel
theorem dX0_takesAtHead_21 : decode cX0_takesAtHead 21 = .ok (.isub, 1) := by decide +kernel
theorem dX0_takesAtHead_22 : decode cX0_takesAtHead 22 = .ok (.ishl, 1) := by decide +kernel
theorem dX0_takesAtHead_23 : decode cX0_takesAtHead 23 = .ok (.ior, 1) := by decide +kernel
theorem dX0_takesAtHead_24 : decode cX0_takesAtHead 24 = .ok (.putfield 48, 3) := by decide +kernel
theorem dX0_takesAtHead_27 : decode cX0_takesAtHead 27 = .ok (.aload_n 0, 1) := by decide +kernel
theorem dX0_takesAtHead_28 : decode cX0_takesAtHead 28 = .ok (.iconst 2, 1) := by decide +kernel
theorem dX0_takesAtHead_29 : decode cX0_takesAtHead 29 = .ok (.iload_n 1, 1) := by decide +kernel
theorem dX0_takesAtHead_30 : decode cX0_takesAtHead 30 = .ok (.invokevirtual 57, 3) := by decide +kernel
theorem dX0_takesAtHead_33 : decode cX0_takesAtHead 33 = .ok (.ireturn, 1) := by decide +kernel
theorem dX0_takesAtHead_34 : decode cX0_takesAtHead 34 = .ok (.iload_n 1, 1) := by decide +kernel
theorem dX0_takesAtHead_35 : decode cX0_takesAtHead 35 = .ok (.bipush 40, 2) := by decide +kernel
theorem dX0_takesAtHead_37 : decode cX0_takesAtHead 37 = .ok (.if_icmp .ne 11, 3) := by decide +kernel
theorem dX0_takesAtHead_40 : decode cX0_takesAtHead 40 = .ok (.aload_n 0, 1) := by decide +kernel
theorem dX0_takesAtHead_41 : decode cX0_takesAtHead 41 = .ok (.getfield 41, 3) := by decide +kernel
theorem dX0_takesAtHead_44 : decode cX0_takesAtHead 44 = .ok (.iconst 4, 1) := by decide +kernel
theorem dX0_takesAtHead_45 : decode cX0_takesAtHead 45 = .ok (.if_icmp .lt 5, 3) := by decide +kernel
theorem dX0_takesAtHead_48 : decode cX0_takesAtHead 48 = .ok (.iconst 0, 1) := by decide +kernel
theorem dX0_takesAtHead_49 : decode cX0_takesAtHead 49 = .ok (.ireturn, 1) := by decide +kernel
theorem dX0_takesAtHead_50 : decode cX0_takesAtHead 50 = .ok (.aload_n 0, 1) := by decide +kernel
theorem dX0_takesAtHead_51 : decode cX0_takesAtHead 51 = .ok (.dup, 1) := by decide +kernel
theorem dX0_takesAtHead_52 : decode cX0_takesAtHead 52 = .ok (.getfield 41, 3) := by decide +kernel
theorem dX0_takesAtHead_55 : decode cX0_takesAtHead 55 = .ok (.iconst 1, 1) := by decide +kernel
theorem dX0_takesAtHead_56 : decode cX0_takesAtHead 56 = .ok (.iadd, 1) := by decide +kernel
theorem dX0_takesAtHead_57 : decode cX0_takesAtHead 57 = .ok (.putfield 41, 3) := by decide +kernel
theorem dX0_takesAtHead_60 : decode cX0_takesAtHead 60 = .ok (.aload_n 0, 1) := by decide +kernel
theorem dX0_takesAtHead_61 : decode cX0_takesAtHead 61 = .ok (.iconst 0, 1) := by decide +kernel
theorem dX0_takesAtHead_62 : decode cX0_takesAtHead 62 = .ok (.iload_n 1, 1) := by decide +kernel
theorem dX0_takesAtHead_63 : decode cX0_takesAtHead 63 = .ok (.invokevirtual 57, 3) := by decide +kernel
theorem dX0_takesAtHead_66 : decode cX0_takesAtHead 66 = .ok (.ireturn, 1) := by decide +kernel
set_option maxRecDepth 20000 in
theorem ggX0_takesBehindPart_X0_goesTo : GoodIn wsX0_takesBehindPart wsX0_goesTo := goodIn_r _ [6, 7, 8, 9, 10, 5, 11, 12, 13, 14, 15, 16, 17, 18, 19, 20, 21, 22, 23, 24, 25, 26] (by decide +kernel) (by decide +kernel)
set_option maxRecDepth 20000 in
theorem gX0_takesBehindPart_X0_goesTo : GoodIn wsX0_takesBehindPart (wsV RX0 57 RX0 yX0_goesTo wsX0_goesTo) := goodIn_app (goodIn_of _ (by decide +kernel)) ggX0_takesBehindPart_X0_goesTo
theorem dX0_takesBehindPart_0 : decode cX0_takesBehindPart 0 = .ok (.iload_n 1, 1) := by decide +kernel
theorem dX0_takesBehindPart_1 : decode cX0_takesBehindPart 1 = .ok (.bipush 43, 2) := by decide +kernel
theorem dX0_takesBehindPart_3 : decode cX0_takesBehindPart 3 = .ok (.if_icmp .eq 16, 3) := by decide +kernel
theorem dX0_takesBehindPart_6 : decode cX0_takesBehindPart 6 = .ok (.iload_n 1, 1) := by decide +kernel
theorem dX0_takesBehindPart_7 : decode cX0_takesBehindPart 7 = .ok (.bipush 124, 2) := by decide +kernel
theorem dX0_takesBehindPart_9 : decode cX0_takesBehindPart 9 = .ok (.if_icmp .ne 17, 3) := by decide +kernel
theorem dX0_takesBehindPart_12 : decode cX0_takesBehindPart 12 = .ok (.aload_n 0, 1) := by decide +kernel
theorem dX0_takesBehindPart_13 : decode cX0_takesBehindPart 13 = .ok (.getfield 41, 3) := by decide +kernel
theorem dX0_takesBehindPart_16 : decode cX0_takesBehindPart 16 = .ok (.ifCond .le 10, 3) := by decide +kernel
theorem dX0_takesBehindPart_19 : decode cX0_takesBehindPart 19 = .ok (.aload_n 0, 1) := by decide +kernel
theorem dX0_takesBehindPart_20 : decode cX0_takesBehindPart 20 = .ok (.iconst 0, 1) := by decide +kernel
theorem dX0_takesBehindPart_21 : decode cX0_takesBehindPart 21 = .ok (.iload_n 1, 1) := by decide +kernel
theorem dX0_takesBehindPart_22 : decode cX0_takesBehindPart 22 = .ok (.invokevirtual 57, 3) := by decide +kernel
theorem dX0_takesBehindPart_25 : decode cX0_takesBehindPart 25 = .ok (.ireturn, 1) := by decide +kernel
theorem dX0_takesBehindPart_26 : decode cX0_takesBehindPart 26 = .ok (.iload_n 1, 1) := by decide +kernel
theorem dX0_takesBehindPart_27 : decode cX0_takesBehindPart 27 = .ok (.bipush 41, 2) := by decide +kernel
theorem dX0_takesBehindPart_29 : decode cX0_takesBehindPart 29 = .ok (.if_icmp .ne 27, 3) := by decide +kernel
theorem dX0_takesBehindPart_32 : decode cX0_takesBehindPart 32 = .ok (.aload_n 0, 1) := by decide +kernel
theorem dX0_takesBehindPart_33 : decode cX0_takesBehindPart 33 = .ok (.getfield 41, 3) := by decide +kernel
theorem dX0_takesBehindPart_36 : decode cX0_takesBehindPart 36 = .ok (.ifCond .le 20, 3) := by decide +kernel
theorem dX0_takesBehindPart_39 : decode cX0_takesBehindPart 39 = .ok (.aload_n 0, 1) := by decide +kernel
theorem dX0_takesBehindPart_40 : decode cX0_takesBehindPart 40 = .ok (.dup, 1) := by decide +kernel
theorem dX0_takesBehindPart_41 : decode cX0_takesBehindPart 41 = .ok (.getfield 41, 3) := by decide +kernel
theorem dX0_takesBehindPart_44 : decode cX0_takesBehindPart 44 = .ok (.iconst 1, 1) := by decide +kernel
theorem dX0_takesBehindPart_45 : decode cX0_takesBehindPart 45 = .ok (.isub, 1) := by decide +kernel
theorem dX0_takesBehindPart_46 : decode cX0_takesBehindPart 46 = .ok (.putfield 41, 3) := by decide +kernel
theorem dX0_takesBehindPart_49 : decode cX0_takesBehindPart 49 = .ok (.aload_n 0, 1) := by decide +kernel
theorem dX0_takesBehindPart_50 : decode cX0_takesBehindPart 50 = .ok (.iconst 2, 1) := by decide +kernel
theorem dX0_takesBehindPart_51 : decode cX0_takesBehindPart 51 = .ok (.iload_n 1, 1) := by decide +kernel
theorem dX0_takesBehindPart_52 : decode cX0_takesBehindPart 52 = .ok (.invokevirtual 57, 3) := by decide +kernel
theorem dX0_takesBehindPart_55 : decode cX0_takesBehindPart 55 = .ok (.ireturn, 1) := by decide +kernel
theorem dX0_takesBehindPart_56 : decode cX0_takesBehindPart 56 = .ok (.iload_n 1, 1) := by decide +kernel
theorem dX0_takesBehindPart_57 : decode cX0_takesBehindPart 57 = .ok (.bipush 60, 2) := by decide +kernel
theorem dX0_takesBehindPart_59 : decode cX0_takesBehindPart 59 = .ok (.if_icmp .ne 10, 3) := by decide +kernel
theorem dX0_takesBehindPart_62 : decode cX0_takesBehindPart 62 = .ok (.aload_n 0, 1) := by decide +kernel
theorem dX0_takesBehindPart_63 : decode cX0_takesBehindPart 63 = .ok (.getfield 41, 3) := by decide +kernel
theorem dX0_takesBehindPart_66 : decode cX0_takesBehindPart 66 = .ok (.ifCond .le 5, 3) := by decide +kernel
theorem dX0_takesBehindPart_69 : decode cX0_takesBehindPart 69 = .ok (.iconst 0, 1) := by decide +kernel
theorem dX0_takesBehindPart_70 : decode cX0_takesBehindPart 70 = .ok (.ireturn, 1) := by decide +kernel
theorem dX0_takesBehindPart_71 : decode cX0_takesBehindPart 71 = .ok (.aload_n 0, 1) := by decide +kernel
theorem dX0_takesBehindPart_72 : decode cX0_takesBehindPart 72 = .ok (.iconst 3, 1) := by decide +kernel
theorem dX0_takesBehindPart_73 : decode cX0_takesBehindPart 73 = .ok (.iload_n 1, 1) := by decide +kernel
theorem dX0_takesBehindPart_74 : decode cX0_takesBehindPart 74 = .ok (.invokevirtual 57, 3) := by decide +kernel
theorem dX0_takesBehindPart_77 : decode cX0_takesBehindPart 77 = .ok (.ireturn, 1) := by decide +kernel
theorem dX0_takesInNumber_0 : decode cX0_takesInNumber 0 = .ok (.iload_n 1, 1) := by decide +kernel
theorem dX0_takesInNumber_1 : decode cX0_takesInNumber 1 = .ok (.bipush 48, 2) := by decide +kernel
theorem dX0_takesInNumber_3 : decode cX0_takesInNumber 3 = .ok (.if_icmp .lt 9, 3) := by decide +kernel
theorem dX0_takesInNumber_6 : decode cX0_takesInNumber 6 = .ok (.iload_n 1, 1) := by decide +kernel
theorem dX0_takesInNumber_7 : decode cX0_takesInNumber 7 = .ok (.bipush 57, 2) := by decide +kernel
theorem dX0_takesInNumber_9 : decode cX0_takesInNumber 9 = .ok (.if_icmp .le 5, 3) := by decide +kernel
theorem dX0_takesInNumber_12 : decode cX0_takesInNumber 12 = .ok (.iconst 0, 1) := by decide +kernel
theorem dX0_takesInNumber_13 : decode cX0_takesInNumber 13 = .ok (.ireturn, 1) := by decide +kernel
theorem dX0_takesInNumber_14 : decode cX0_takesInNumber 14 = .ok (.aload_n 0, 1) := by decide +kernel
theorem dX0_takesInNumber_15 : decode cX0_takesInNumber 15 = .ok (.bipush 10, 2) := by decide +kernel
theorem dX0_takesInNumber_17 : decode cX0_takesInNumber 17 = .ok (.iload_n 2, 1) := by decide +kernel
theorem dX0_takesInNumber_18 : decode cX0_takesInNumber 18 = .ok (.imul, 1) := by decide +kernel
theorem dX0_takesInNumber_19 : decode cX0_takesInNumber 19 = .ok (.iload_n 1, 1) := by decide +kernel
theorem dX0_takesInNumber_20 : decode cX0_takesInNumber 20 = .ok (.iadd, 1) := by decide +kernel
theorem dX0_takesInNumber_21 : decode cX0_takesInNumber 21 = .ok (.bipush 48, 2) := by decide +kernel
theorem dX0_takesInNumber_23 : decode cX0_takesInNumber 23 = .ok (.isub, 1) := by decide +kernel
theorem dX0_takesInNumber_24 : decode cX0_takesInNumber 24 = .ok (.putfield 51, 3) := by decide +kernel
theorem dX0_takesInNumber_27 : decode cX0_takesInNumber 27 = .ok (.aload_n 0, 1) := by decide +kernel
theorem dX0_takesInNumber_28 : decode cX0_takesInNumber 28 = .ok (.iload_n 3, 1) := by decide +kernel
theorem dX0_takesInNumber_29 : decode cX0_takesInNumber 29 = .ok (.putfield 38, 3) := by decide +kernel
theorem dX0_takesInNumber_32 : decode cX0_takesInNumber 32 = .ok (.iconst 1, 1) := by decide +kernel
theorem dX0_takesInNumber_33 : decode cX0_takesInNumber 33 = .ok (.ireturn, 1) := by decide +kernel
set_option maxRecDepth 20000 in
theorem ggX0_goesTo_X0_write : GoodIn wsX0_goesTo wsX0_write := goodIn_r _ [6, 7, 8, 9, 10, 11, 12, 13, 14, 15, 16, 17, 18, 19, 20, 21] (by decide +kernel) (by decide +kernel)
set_option maxRecDepth 20000 in
theorem gX0_goesTo_X0_write : GoodIn wsX0_goesTo (wsV RX0 54 RX0 yX0_write wsX0_write) := goodIn_app (goodIn_of _ (by decide +kernel)) ggX0_goesTo_X0_write
theorem dX0_goesTo_0 : decode cX0_goesTo 0 = .ok (.aload_n 0, 1) := by decide +kernel
theorem dX0_goesTo_1 : decode cX0_goesTo 1 = .ok (.iload_n 2, 1) := by decide +kernel
theorem dX0_goesTo_2 : decode cX0_goesTo 2 = .ok (.invokevirtual 54, 3) := by decide +kernel
theorem dX0_goesTo_5 : decode cX0_goesTo 5 = .ok (.aload_n 0, 1) := by decide +kernel
theorem dX0_goesTo_6 : decode cX0_goesTo 6 = .ok (.iload_n 1, 1) := by decide +kernel
theorem dX0_goesTo_7 : decode cX0_goesTo 7 = .ok (.putfield 38, 3) := by decide +kernel
theorem dX0_goesTo_10 : decode cX0_goesTo 10 = .ok (.iconst 1, 1) := by decide +kernel
theorem dX0_goesTo_11 : decode cX0_goesTo 11 = .ok (.ireturn, 1) := by decide +kernel
set_option maxRecDepth 20000 in
theorem ggX0_writeNumber_X0_write : GoodIn wsX0_writeNumber wsX0_write := goodIn_r _ [6, 7, 8, 9, 10, 11, 12, 13, 14, 15, 16, 17, 18, 19, 20, 21] (by decide +kernel) (by decide +kernel)
set_option maxRecDepth 20000 in
theorem gX0_writeNumber_X0_write : GoodIn wsX0_writeNumber (wsV RX0 54 RX0 yX0_write wsX0_write) := goodIn_app (goodIn_of _ (by decide +kernel)) ggX0_writeNumber_X0_write
theorem dX0_writeNumber_0 : decode cX0_writeNumber 0 = .ok (.aload_n 0, 1) := by decide +kernel
theorem dX0_writeNumber_1 : decode cX0_writeNumber 1 = .ok (.getfield 51, 3) := by decide +kernel
theorem dX0_writeNumber_4 : decode cX0_writeNumber 4 = .ok (.iconst (-1), 1) := by decide +kernel
theorem dX0_writeNumber_5 : decode cX0_writeNumber 5 = .ok (.if_icmp .ne 4, 3) := by decide +kernel
theorem dX0_writeNumber_8 : decode cX0_writeNumber 8 = .ok (.return_, 1) := by decide +kernel
theorem dX0_writeNumber_9 : decode cX0_writeNumber 9 = .ok (.aload_n 0, 1) := by decide +kernel
theorem dX0_writeNumber_10 : decode cX0_writeNumber 10 = .ok (.getfield 51, 3) := by decide +kernel
theorem dX0_writeNumber_13 : decode cX0_writeNumber 13 = .ok (.bipush 9, 2) := by decide +kernel
theorem dX0_writeNumber_15 : decode cX0_writeNumber 15 = .ok (.if_icmp .le 17, 3) := by decide +kernel
theorem dX0_writeNumber_18 : decode cX0_writeNumber 18 = .ok (.aload_n 0, 1) := by decide +kernel
theorem dX0_writeNumber_19 : decode cX0_writeNumber 19 = .ok (.bipush 48, 2) := by decide +kernel
theorem dX0_writeNumber_21 : decode cX0_writeNumber 21 = .ok (.aload_n 0, 1) := by decide +kernel
theorem dX0_writeNumber_22 : decode cX0_writeNumber 22 = .ok (.getfield 51, 3) := by decide +kernel
theorem dX0_writeNumber_25 : decode cX0_writeNumber 25 = .ok (.bipush 10, 2) := by decide +kernel
theorem dX0_writeNumber_27 : decode cX0_writeNumber 27 = .ok (.idiv, 1) := by decide +kernel
theorem dX0_writeNumber_28 : decode cX0_writeNumber 28 = .ok (.iadd, 1) := by decide +kernel
theorem dX0_writeNumber_29 : decode cX0_writeNumber 29 = .ok (.invokevirtual 54, 3) := by decide +kernel
theorem dX0_writeNumber_32 : decode cX0_writeNumber 32 = .ok (.aload_n 0, 1) := by decide +kernel
theorem dX0_writeNumber_33 : decode cX0_writeNumber 33 = .ok (.bipush 48, 2) := by decide +kernel
theorem dX0_writeNumber_35 : decode cX0_writeNumber 35 = .ok (.aload_n 0, 1) := by decide +kernel
theorem dX0_writeNumber_36 : decode cX0_writeNumber 36 = .ok (.getfield 51, 3) := by decide +kernel
theorem dX0_writeNumber_39 : decode cX0_writeNumber 39 = .ok (.bipush 10, 2) := by decide +kernel
theorem dX0_writeNumber_41 : decode cX0_writeNumber 41 = .ok (.irem, 1) := by decide +kernel
theorem dX0_writeNumber_42 : decode cX0_writeNumber 42 = .ok (.iadd, 1) := by decide +kernel
theorem dX0_writeNumber_43 : decode cX0_writeNumber 43 = .ok (.invokevirtual 54, 3) := by decide +kernel
theorem dX0_writeNumber_46 : decode cX0_writeNumber 46 = .ok (.return_, 1) := by decide +kernel
set_option maxRecDepth 20000 in
theorem ggX0_write_X5_set : GoodIn wsX0_write wsX5_set := goodIn_r _ [7, 8, 15] (by decide +kernel) (by decide +kernel)
set_option maxRecDepth 20000 in
theorem gX0_write_X5_set : GoodIn wsX0_write (wsV RX0 71 RX5 yX5_set wsX5_set) := goodIn_app (goodIn_of _ (by decide +kernel)) ggX0_write_X5_set
theorem dX0_write_0 : decode cX0_write 0 = .ok (.aload_n 0, 1) := by decide +kernel
theorem dX0_write_1 : decode cX0_write 1 = .ok (.getfield 18, 3) := by decide +kernel
theorem dX0_write_4 : decode cX0_write 4 = .ok (.aload_n 0, 1) := by decide +kernel
theorem dX0_write_5 : decode cX0_write 5 = .ok (.getfield 47, 3) := by decide +kernel
theorem dX0_write_8 : decode cX0_write 8 = .ok (.iload_n 1, 1) := by decide +kernel
theorem dX0_write_9 : decode cX0_write 9 = .ok (.invokevirtual 71, 3) := by decide +kernel
theorem dX0_write_12 : decode cX0_write 12 = .ok (.aload_n 0, 1) := by decide +kernel
theorem dX0_write_13 : decode cX0_write 13 = .ok (.dup, 1) := by decide +kernel
theorem dX0_write_14 : decode cX0_write 14 = .ok (.getfield 47, 3) := by decide +kernel
theorem dX0_write_17 : decode cX0_write 17 = .ok (.iconst 1, 1) := by decide +kernel
theorem dX0_write_18 : decode cX0_write 18 = .ok (.iadd, 1) := by decide +kernel
theorem dX0_write_19 : decode cX0_write 19 = .ok (.putfield 47, 3) := by decide +kernel
theorem dX0_write_22 : decode cX0_write 22 = .ok (.return_, 1) := by decide +kernel
set_option maxRecDepth 20000 in
theorem ggX1_init_X5_init : GoodIn wsX1_init wsX5_init := goodIn_r _ [10, 11, 2, 3, 12, 13, 14, 15, 16, 17, 18] (by decide +kernel) (by decide +kernel)
set_option maxRecDepth 20000 in
theorem gX1_init_X5_init : GoodIn wsX1_init (wsX5_init) := ggX1_init_X5_init
theorem dX1_init_0 : decode cX1_init 0 = .ok (.aload_n 0, 1) := by decide +kernel
theorem dX1_init_1 : decode cX1_init 1 = .ok (.invokespecial 1, 3) := by decide +kernel
theorem dX1_init_4 : decode cX1_init 4 = .ok (.aload_n 0, 1) := by decide +kernel
theorem dX1_init_5 : decode cX1_init 5 = .ok (.new 7, 3) := by decide +kernel
theorem dX1_init_8 : decode cX1_init 8 = .ok (.dup, 1) := by decide +kernel
theorem dX1_init_9 : decode cX1_init 9 = .ok (.bipush 40, 2) := by decide +kernel
theorem dX1_init_11 : decode cX1_init 11 = .ok (.invokespecial 11, 3) := by decide +kernel
theorem dX1_init_14 : decode cX1_init 14 = .ok (.putfield 14, 3) := by decide +kernel
theorem dX1_init_17 : decode cX1_init 17 = .ok (.return_, 1) := by decide +kernel
set_option maxRecDepth 20000 in
theorem ggX1_append_X5_set : GoodIn wsX1_append wsX5_set := goodIn_r _ [7, 8, 11] (by decide +kernel) (by decide +kernel)
set_option maxRecDepth 20000 in
theorem gX1_append_X5_set : GoodIn wsX1_append (wsV RX1 22 RX5 yX5_set wsX5_set) := goodIn_app (goodIn_of _ (by decide +kernel)) ggX1_append_X5_set
theorem dX1_append_0 : decode cX1_append 0 = .ok (.aload_n 0, 1) := by decide +kernel
theorem dX1_append_1 : decode cX1_append 1 = .ok (.getfield 18, 3) := by decide +kernel
theorem dX1_append_4 : decode cX1_append 4 = .ok (.bipush 40, 2) := by decide +kernel
theorem dX1_append_6 : decode cX1_append 6 = .ok (.if_icmp .lt 4, 3) := by decide +kernel
theorem dX1_append_9 : decode cX1_append 9 = .ok (.return_, 1) := by decide +kernel
theorem dX1_append_10 : decode cX1_append 10 = .ok (.aload_n 0, 1) := by decide +kernel
theorem dX1_append_11 : decode cX1_append 11 = .ok (.getfield 14, 3) := by decide +kernel
theorem dX1_append_14 : decode cX1_append 14 = .ok (.aload_n 0, 1) := by decide +kernel
theorem dX1_append_15 : decode cX1_append 15 = .ok (.getfield 18, 3) := by decide +kernel
theorem dX1_append_18 : decode cX1_append 18 = .ok (.iload_n 1, 1) := by decide +kernel
theorem dX1_append_19 : decode cX1_append 19 = .ok (.invokevirtual 22, 3) := by decide +kernel
theorem dX1_append_22 : decode cX1_append 22 = .ok (.aload_n 0, 1) := by decide +kernel
theorem dX1_append_23 : decode cX1_append 23 = .ok (.dup, 1) := by decide +kernel
theorem dX1_append_24 : decode cX1_append 24 = .ok (.getfield 18, 3) := by decide +kernel
theorem dX1_append_27 : decode cX1_append 27 = .ok (.iconst 1, 1) := by decide +kernel
theorem dX1_append_28 : decode cX1_append 28 = .ok (.iadd, 1) := by decide +kernel
theorem dX1_append_29 : decode cX1_append 29 = .ok (.putfield 18, 3) := by decide +kernel
theorem dX1_append_32 : decode cX1_append 32 = .ok (.return_, 1) := by decide +kernel
theorem dX1_clear_0 : decode cX1_clear 0 = .ok (.aload_n 0, 1) := by decide +kernel
theorem dX1_clear_1 : decode cX1_clear 1 = .ok (.iconst 0, 1) := by decide +kernel
theorem dX1_clear_2 : decode cX1_clear 2 = .ok (.putfield 18, 3) := by decide +kernel
theorem dX1_clear_5 : decode cX1_clear 5 = .ok (.return_, 1) := by decide +kernel
set_option maxRecDepth 20000 in
theorem ggX2_init_X5_init : GoodIn wsX2_init wsX5_init := goodIn_r _ [20, 21, 2, 3, 22, 23, 24, 25, 26, 27, 28] (by decide +kernel) (by decide +kernel)
set_option maxRecDepth 20000 in
theorem gX2_init_X5_init : GoodIn wsX2_init (wsX5_init) := ggX2_init_X5_init
theorem dX2_init_0 : decode cX2_init 0 = .ok (.aload_n 0, 1) := by decide +kernel
theorem dX2_init_1 : decode cX2_init 1 = .ok (.invokespecial 5, 3) := by decide +kernel
theorem dX2_init_4 : decode cX2_init 4 = .ok (.aload_n 0, 1) := by decide +kernel
theorem dX2_init_5 : decode cX2_init 5 = .ok (.new 11, 3) := by decide +kernel
theorem dX2_init_8 : decode cX2_init 8 = .ok (.dup, 1) := by decide +kernel
theorem dX2_init_9 : decode cX2_init 9 = .ok (.sipush 300, 3) := by decide +kernel
theorem dX2_init_12 : decode cX2_init 12 = .ok (.invokespecial 15, 3) := by decide +kernel
theorem dX2_init_15 : decode cX2_init 15 = .ok (.putfield 18, 3) := by decide +kernel
theorem dX2_init_18 : decode cX2_init 18 = .ok (.aload_n 0, 1) := by decide +kernel
theorem dX2_init_19 : decode cX2_init 19 = .ok (.new 11, 3) := by decide +kernel
theorem dX2_init_22 : decode cX2_init 22 = .ok (.dup, 1) := by decide +kernel
theorem dX2_init_23 : decode cX2_init 23 = .ok (.sipush 300, 3) := by decide +kernel
theorem dX2_init_26 : decode cX2_init 26 = .ok (.invokespecial 15, 3) := by decide +kernel
theorem dX2_init_29 : decode cX2_init 29 = .ok (.putfield 22, 3) := by decide +kernel
theorem dX2_init_32 : decode cX2_init 32 = .ok (.aload_n 0, 1) := by decide +kernel
theorem dX2_init_33 : decode cX2_init 33 = .ok (.new 11, 3) := by decide +kernel
theorem dX2_init_36 : decode cX2_init 36 = .ok (.dup, 1) := by decide +kernel
theorem dX2_init_37 : decode cX2_init 37 = .ok (.sipush 300, 3) := by decide +kernel
theorem dX2_init_40 : decode cX2_init 40 = .ok (.invokespecial 15, 3) := by decide +kernel
theorem dX2_init_43 : decode cX2_init 43 = .ok (.putfield 25, 3) := by decide +kernel
theorem dX2_init_46 : decode cX2_init 46 = .ok (.aload_n 0, 1) := by decide +kernel
theorem dX2_init_47 : decode cX2_init 47 = .ok (.new 11, 3) := by decide +kernel
theorem dX2_init_50 : decode cX2_init 50 = .ok (.dup, 1) := by decide +kernel
theorem dX2_init_51 : decode cX2_init 51 = .ok (.sipush 300, 3) := by decide +kernel
theorem dX2_init_54 : decode cX2_init 54 = .ok (.invokespecial 15, 3) := by decide +kernel
theorem dX2_init_57 : decode cX2_init 57 = .ok (.putfield 28, 3) := by decide +kernel
theorem dX2_init_60 : decode cX2_init 60 = .ok (.aload_n 0, 1) := by decide +kernel
theorem dX2_init_61 : decode cX2_init 61 = .ok (.new 11, 3) := by decide +kernel
theorem dX2_init_64 : decode cX2_init 64 = .ok (.dup, 1) := by decide +kernel
theorem dX2_init_65 : decode cX2_init 65 = .ok (.sipush 300, 3) := by decide +kernel
theorem dX2_init_68 : decode cX2_init 68 = .ok (.invokespecial 15, 3) := by decide +kernel
theorem dX2_init_71 : decode cX2_init 71 = .ok (.putfield 31, 3) := by decide +kernel
theorem dX2_init_74 : decode cX2_init 74 = .ok (.aload_n 0, 1) := by decide +kernel
theorem dX2_init_75 : decode cX2_init 75 = .ok (.new 11, 3) := by decide +kernel
theorem dX2_init_78 : decode cX2_init 78 = .ok (.dup, 1) := by decide +kernel
theorem dX2_init_79 : decode cX2_init 79 = .ok (.sipush 300, 3) := by decide +kernel
theorem dX2_init_82 : decode cX2_init 82 = .ok (.invokespecial 15, 3) := by decide +kernel
theorem dX2_init_85 : decode cX2_init 85 = .ok (.putfield 34, 3) := by decide +kernel
theorem dX2_init_88 : decode cX2_init 88 = .ok (.aload_n 0, 1) := by decide +kernel
theorem dX2_init_89 : decode cX2_init 89 = .ok (.new 11, 3) := by decide +kernel
theorem dX2_init_92 : decode cX2_init 92 = .ok (.dup, 1) := by decide +kernel
theorem dX2_init_93 : decode cX2_init 93 = .ok (.sipush 300, 3) := by decide +kernel
theorem dX2_init_96 : decode cX2_init 96 = .ok (.invokespecial 15, 3) := by decide +kernel
theorem dX2_init_99 : decode cX2_init 99 = .ok (.putfield 37, 3) := by decide +kernel
theorem dX2_init_102 : decode cX2_init 102 = .ok (.aload_n 0, 1) := by decide +kernel
theorem dX2_init_103 : decode cX2_init 103 = .ok (.new 11, 3) := by decide +kernel
theorem dX2_init_106 : decode cX2_init 106 = .ok (.dup, 1) := by decide +kernel
theorem dX2_init_107 : decode cX2_init 107 = .ok (.sipush 300, 3) := by decide +kernel
theorem dX2_init_110 : decode cX2_init 110 = .ok (.invokespecial 15, 3) := by decide +kernel
theorem dX2_init_113 : decode cX2_init 113 = .ok (.putfield 40, 3) := by decide +kernel
theorem dX2_init_116 : decode cX2_init 116 = .ok (.aload_n 0, 1) := by decide +kernel
theorem dX2_init_117 : decode cX2_init 117 = .ok (.new 11, 3) := by decide +kernel
theorem dX2_init_120 : decode cX2_init 120 = .ok (.dup, 1) := by decide +kernel
theorem dX2_init_121 : decode cX2_init 121 = .ok (.bipush 64, 2) := by decide +kernel
theorem dX2_init_123 : decode cX2_init 123 = .ok (.invokespecial 15, 3) := by decide +kernel
theorem dX2_init_126 : decode cX2_init 126 = .ok (.putfield 43, 3) := by decide +kernel
theorem dX2_init_129 : decode cX2_init 129 = .ok (.aload_n 0, 1) := by decide +kernel
theorem dX2_init_130 : decode cX2_init 130 = .ok (.new 11, 3) := by decide +kernel
theorem dX2_init_133 : decode cX2_init 133 = .ok (.dup, 1) := by decide +kernel
theorem dX2_init_134 : decode cX2_init 134 = .ok (.bipush 64, 2) := by decide +kernel
theorem dX2_init_136 : decode cX2_init 136 = .ok (.invokespecial 15, 3) := by decide +kernel
theorem dX2_init_139 : decode cX2_init 139 = .ok (.putfield 46, 3) := by decide +kernel
theorem dX2_init_142 : decode cX2_init 142 = .ok (.aload_n 0, 1) := by decide +kernel
theorem dX2_init_143 : decode cX2_init 143 = .ok (.new 11, 3) := by decide +kernel
theorem dX2_init_146 : decode cX2_init 146 = .ok (.dup, 1) := by decide +kernel
theorem dX2_init_147 : decode cX2_init 147 = .ok (.bipush 64, 2) := by decide +kernel
theorem dX2_init_149 : decode cX2_init 149 = .ok (.invokespecial 15, 3) := by decide +kernel
theorem dX2_init_152 : decode cX2_init 152 = .ok (.putfield 49, 3) := by decide +kernel
theorem dX2_init_155 : decode cX2_init 155 = .ok (.return_, 1) := by decide +kernel
set_option maxRecDepth 20000 in
theorem ggX3_init_X5_init : GoodIn wsX3_init wsX5_init := goodIn_r _ [15, 16, 2, 3, 17, 18, 19, 20, 21, 22, 23] (by decide +kernel) (by decide +kernel)
set_option maxRecDepth 20000 in
theorem gX3_init_X5_init : GoodIn wsX3_init (wsX5_init) := ggX3_init_X5_init
theorem dX3_init_0 : decode cX3_init 0 = .ok (.aload_n 0, 1) := by decide +kernel
theorem dX3_init_1 : decode cX3_init 1 = .ok (.invokespecial 3, 3) := by decide +kernel
theorem dX3_init_4 : decode cX3_init 4 = .ok (.aload_n 0, 1) := by decide +kernel
theorem dX3_init_5 : decode cX3_init 5 = .ok (.new 9, 3) := by decide +kernel
theorem dX3_init_8 : decode cX3_init 8 = .ok (.dup, 1) := by decide +kernel
theorem dX3_init_9 : decode cX3_init 9 = .ok (.bipush 16, 2) := by decide +kernel
theorem dX3_init_11 : decode cX3_init 11 = .ok (.invokespecial 13, 3) := by decide +kernel
theorem dX3_init_14 : decode cX3_init 14 = .ok (.putfield 16, 3) := by decide +kernel
theorem dX3_init_17 : decode cX3_init 17 = .ok (.aload_n 0, 1) := by decide +kernel
theorem dX3_init_18 : decode cX3_init 18 = .ok (.new 9, 3) := by decide +kernel
theorem dX3_init_21 : decode cX3_init 21 = .ok (.dup, 1) := by decide +kernel
theorem dX3_init_22 : decode cX3_init 22 = .ok (.bipush 16, 2) := by decide +kernel
theorem dX3_init_24 : decode cX3_init 24 = .ok (.invokespecial 13, 3) := by decide +kernel
theorem dX3_init_27 : decode cX3_init 27 = .ok (.putfield 20, 3) := by decide +kernel
theorem dX3_init_30 : decode cX3_init 30 = .ok (.aload_n 0, 1) := by decide +kernel
theorem dX3_init_31 : decode cX3_init 31 = .ok (.new 9, 3) := by decide +kernel
theorem dX3_init_34 : decode cX3_init 34 = .ok (.dup, 1) := by decide +kernel
theorem dX3_init_35 : decode cX3_init 35 = .ok (.bipush 16, 2) := by decide +kernel
theorem dX3_init_37 : decode cX3_init 37 = .ok (.invokespecial 13, 3) := by decide +kernel
theorem dX3_init_40 : decode cX3_init 40 = .ok (.putfield 23, 3) := by decide +kernel
theorem dX3_init_43 : decode cX3_init 43 = .ok (.aload_n 0, 1) := by decide +kernel
theorem dX3_init_44 : decode cX3_init 44 = .ok (.new 9, 3) := by decide +kernel
theorem dX3_init_47 : decode cX3_init 47 = .ok (.dup, 1) := by decide +kernel
theorem dX3_init_48 : decode cX3_init 48 = .ok (.bipush 16, 2) := by decide +kernel
theorem dX3_init_50 : decode cX3_init 50 = .ok (.invokespecial 13, 3) := by decide +kernel
theorem dX3_init_53 : decode cX3_init 53 = .ok (.putfield 26, 3) := by decide +kernel
theorem dX3_init_56 : decode cX3_init 56 = .ok (.aload_n 0, 1) := by decide +kernel
theorem dX3_init_57 : decode cX3_init 57 = .ok (.new 9, 3) := by decide +kernel
theorem dX3_init_60 : decode cX3_init 60 = .ok (.dup, 1) := by decide +kernel
theorem dX3_init_61 : decode cX3_init 61 = .ok (.bipush 16, 2) := by decide +kernel
theorem dX3_init_63 : decode cX3_init 63 = .ok (.invokespecial 13, 3) := by decide +kernel
theorem dX3_init_66 : decode cX3_init 66 = .ok (.putfield 29, 3) := by decide +kernel
theorem dX3_init_69 : decode cX3_init 69 = .ok (.aload_n 0, 1) := by decide +kernel
theorem dX3_init_70 : decode cX3_init 70 = .ok (.new 9, 3) := by decide +kernel
theorem dX3_init_73 : decode cX3_init 73 = .ok (.dup, 1) := by decide +kernel
theorem dX3_init_74 : decode cX3_init 74 = .ok (.bipush 16, 2) := by decide +kernel
theorem dX3_init_76 : decode cX3_init 76 = .ok (.invokespecial 13, 3) := by decide +kernel
theorem dX3_init_79 : decode cX3_init 79 = .ok (.putfield 32, 3) := by decide +kernel
theorem dX3_init_82 : decode cX3_init 82 = .ok (.return_, 1) := by decide +kernel
set_option maxRecDepth 20000 in
theorem ggX4_init_X5_init : GoodIn wsX4_init wsX5_init := goodIn_r _ [21, 22, 2, 3, 23, 24, 25, 26, 27, 28, 29] (by decide +kernel) (by decide +kernel)
set_option maxRecDepth 20000 in
theorem gX4_init_X5_init : GoodIn wsX4_init (wsX5_init) := ggX4_init_X5_init
theorem dX4_init_0 : decode cX4_init 0 = .ok (.aload_n 0, 1) := by decide +kernel
theorem dX4_init_1 : decode cX4_init 1 = .ok (.invokespecial 3, 3) := by decide +kernel
theorem dX4_init_4 : decode cX4_init 4 = .ok (.aload_n 0, 1) := by decide +kernel
theorem dX4_init_5 : decode cX4_init 5 = .ok (.new 9, 3) := by decide +kernel
theorem dX4_init_8 : decode cX4_init 8 = .ok (.dup, 1) := by decide +kernel
theorem dX4_init_9 : decode cX4_init 9 = .ok (.bipush 6, 2) := by decide +kernel
theorem dX4_init_11 : decode cX4_init 11 = .ok (.invokespecial 13, 3) := by decide +kernel
theorem dX4_init_14 : decode cX4_init 14 = .ok (.putfield 16, 3) := by decide +kernel
theorem dX4_init_17 : decode cX4_init 17 = .ok (.aload_n 0, 1) := by decide +kernel
theorem dX4_init_18 : decode cX4_init 18 = .ok (.new 9, 3) := by decide +kernel
theorem dX4_init_21 : decode cX4_init 21 = .ok (.dup, 1) := by decide +kernel
theorem dX4_init_22 : decode cX4_init 22 = .ok (.bipush 6, 2) := by decide +kernel
theorem dX4_init_24 : decode cX4_init 24 = .ok (.invokespecial 13, 3) := by decide +kernel
theorem dX4_init_27 : decode cX4_init 27 = .ok (.putfield 20, 3) := by decide +kernel
theorem dX4_init_30 : decode cX4_init 30 = .ok (.aload_n 0, 1) := by decide +kernel
theorem dX4_init_31 : decode cX4_init 31 = .ok (.new 9, 3) := by decide +kernel
theorem dX4_init_34 : decode cX4_init 34 = .ok (.dup, 1) := by decide +kernel
theorem dX4_init_35 : decode cX4_init 35 = .ok (.bipush 6, 2) := by decide +kernel
theorem dX4_init_37 : decode cX4_init 37 = .ok (.invokespecial 13, 3) := by decide +kernel
theorem dX4_init_40 : decode cX4_init 40 = .ok (.putfield 23, 3) := by decide +kernel
theorem dX4_init_43 : decode cX4_init 43 = .ok (.aload_n 0, 1) := by decide +kernel
theorem dX4_init_44 : decode cX4_init 44 = .ok (.new 9, 3) := by decide +kernel
theorem dX4_init_47 : decode cX4_init 47 = .ok (.dup, 1) := by decide +kernel
theorem dX4_init_48 : decode cX4_init 48 = .ok (.bipush 6, 2) := by decide +kernel
theorem dX4_init_50 : decode cX4_init 50 = .ok (.invokespecial 13, 3) := by decide +kernel
theorem dX4_init_53 : decode cX4_init 53 = .ok (.putfield 26, 3) := by decide +kernel
theorem dX4_init_56 : decode cX4_init 56 = .ok (.aload_n 0, 1) := by decide +kernel
theorem dX4_init_57 : decode cX4_init 57 = .ok (.new 9, 3) := by decide +kernel
theorem dX4_init_60 : decode cX4_init 60 = .ok (.dup, 1) := by decide +kernel
theorem dX4_init_61 : decode cX4_init 61 = .ok (.bipush 6, 2) := by decide +kernel
theorem dX4_init_63 : decode cX4_init 63 = .ok (.invokespecial 13, 3) := by decide +kernel
theorem dX4_init_66 : decode cX4_init 66 = .ok (.putfield 29, 3) := by decide +kernel
theorem dX4_init_69 : decode cX4_init 69 = .ok (.aload_n 0, 1) := by decide +kernel
theorem dX4_init_70 : decode cX4_init 70 = .ok (.new 9, 3) := by decide +kernel
theorem dX4_init_73 : decode cX4_init 73 = .ok (.dup, 1) := by decide +kernel
theorem dX4_init_74 : decode cX4_init 74 = .ok (.bipush 6, 2) := by decide +kernel
theorem dX4_init_76 : decode cX4_init 76 = .ok (.invokespecial 13, 3) := by decide +kernel
theorem dX4_init_79 : decode cX4_init 79 = .ok (.putfield 32, 3) := by decide +kernel
theorem dX4_init_82 : decode cX4_init 82 = .ok (.aload_n 0, 1) := by decide +kernel
theorem dX4_init_83 : decode cX4_init 83 = .ok (.new 9, 3) := by decide +kernel
theorem dX4_init_86 : decode cX4_init 86 = .ok (.dup, 1) := by decide +kernel
theorem dX4_init_87 : decode cX4_init 87 = .ok (.bipush 6, 2) := by decide +kernel
theorem dX4_init_89 : decode cX4_init 89 = .ok (.invokespecial 13, 3) := by decide +kernel
theorem dX4_init_92 : decode cX4_init 92 = .ok (.putfield 35, 3) := by decide +kernel
theorem dX4_init_95 : decode cX4_init 95 = .ok (.aload_n 0, 1) := by decide +kernel
theorem dX4_init_96 : decode cX4_init 96 = .ok (.new 9, 3) := by decide +kernel
theorem dX4_init_99 : decode cX4_init 99 = .ok (.dup, 1) := by decide +kernel
theorem dX4_init_100 : decode cX4_init 100 = .ok (.bipush 6, 2) := by decide +kernel
theorem dX4_init_102 : decode cX4_init 102 = .ok (.invokespecial 13, 3) := by decide +kernel
theorem dX4_init_105 : decode cX4_init 105 = .ok (.putfield 38, 3) := by decide +kernel
theorem dX4_init_108 : decode cX4_init 108 = .ok (.aload_n 0, 1) := by decide +kernel
theorem dX4_init_109 : decode cX4_init 109 = .ok (.new 9, 3) := by decide +kernel
theorem dX4_init_112 : decode cX4_init 112 = .ok (.dup, 1) := by decide +kernel
theorem dX4_init_113 : decode cX4_init 113 = .ok (.bipush 6, 2) := by decide +kernel
theorem dX4_init_115 : decode cX4_init 115 = .ok (.invokespecial 13, 3) := by decide +kernel
theorem dX4_init_118 : decode cX4_init 118 = .ok (.putfield 41, 3) := by decide +kernel
theorem dX4_init_121 : decode cX4_init 121 = .ok (.aload_n 0, 1) := by decide +kernel
theorem dX4_init_122 : decode cX4_init 122 = .ok (.new 9, 3) := by decide +kernel
theorem dX4_init_125 : decode cX4_init 125 = .ok (.dup, 1) := by decide +kernel
theorem dX4_init_126 : decode cX4_init 126 = .ok (.bipush 6, 2) := by decide +kernel
theorem dX4_init_128 : decode cX4_init 128 = .ok (.invokespecial 13, 3) := by decide +kernel
theorem dX4_init_131 : decode cX4_init 131 = .ok (.putfield 44, 3) := by decide +kernel
theorem dX4_init_134 : decode cX4_init 134 = .ok (.aload_n 0, 1) := by decide +kernel
theorem dX4_init_135 : decode cX4_init 135 = .ok (.new 9, 3) := by decide +kernel
theorem dX4_init_138 : decode cX4_init 138 = .ok (.dup, 1) := by decide +kernel
theorem dX4_init_139 : decode cX4_init 139 = .ok (.bipush 6, 2) := by decide +kernel
theorem dX4_init_141 : decode cX4_init 141 = .ok (.invokespecial 13, 3) := by decide +kernel
theorem dX4_init_144 : decode cX4_init 144 = .ok (.putfield 47, 3) := by decide +kernel
theorem dX4_init_147 : decode cX4_init 147 = .ok (.aload_n 0, 1) := by decide +kernel
theorem dX4_init_148 : decode cX4_init 148 = .ok (.new 9, 3) := by decide +kernel
theorem dX4_init_151 : decode cX4_init 151 = .ok (.dup, 1) := by decide +kernel
theorem dX4_init_152 : decode cX4_init 152 = .ok (.bipush 6, 2) := by decide +kernel
theorem dX4_init_154 : decode cX4_init 154 = .ok (.invokespecial 13, 3) := by decide +kernel
theorem dX4_init_157 : decode cX4_init 157 = .ok (.putfield 50, 3) := by decide +kernel
theorem dX4_init_160 : decode cX4_init 160 = .ok (.return_, 1) := by decide +kernel
theorem dX5_init_0 : decode cX5_init 0 = .ok (.aload_n 0, 1) := by decide +kernel
theorem dX5_init_1 : decode cX5_init 1 = .ok (.invokespecial 1, 3) := by decide +kernel
theorem dX5_init_4 : decode cX5_init 4 = .ok (.aload_n 0, 1) := by decide +kernel
theorem dX5_init_5 : decode cX5_init 5 = .ok (.iload_n 1, 1) := by decide +kernel
theorem dX5_init_6 : decode cX5_init 6 = .ok (.iconst 0, 1) := by decide +kernel
theorem dX5_init_7 : decode cX5_init 7 = .ok (.invokestatic 7, 3) := by decide +kernel
theorem dX5_init_10 : decode cX5_init 10 = .ok (.newarray .int, 2) := by decide +kernel
theorem dX5_init_12 : decode cX5_init 12 = .ok (.putfield 13, 3) := by decide +kernel
theorem dX5_init_15 : decode cX5_init 15 = .ok (.return_, 1) := by decide +kernel
theorem dX5_get_0 : decode cX5_get 0 = .ok (.iload_n 1, 1) := by decide +kernel
theorem dX5_get_1 : decode cX5_get 1 = .ok (.ifCond .lt 21, 3) := by decide +kernel
theorem dX5_get_4 : decode cX5_get 4 = .ok (.iload_n 1, 1) := by decide +kernel
theorem dX5_get_5 : decode cX5_get 5 = .ok (.aload_n 0, 1) := by decide +kernel
theorem dX5_get_6 : decode cX5_get 6 = .ok (.getfield 13, 3) := by decide +kernel
theorem dX5_get_9 : decode cX5_get 9 = .ok (.arraylength, 1) := by decide +kernel
theorem dX5_get_10 : decode cX5_get 10 = .ok (.if_icmp .ge 12, 3) := by decide +kernel
theorem dX5_get_13 : decode cX5_get 13 = .ok (.aload_n 0, 1) := by decide +kernel
theorem dX5_get_14 : decode cX5_get 14 = .ok (.getfield 13, 3) := by decide +kernel
theorem dX5_get_17 : decode cX5_get 17 = .ok (.iload_n 1, 1) := by decide +kernel
theorem dX5_get_18 : decode cX5_get 18 = .ok (.iaload, 1) := by decide +kernel
theorem dX5_get_19 : decode cX5_get 19 = .ok (.goto 4, 3) := by decide +kernel
theorem dX5_get_22 : decode cX5_get 22 = .ok (.iconst 0, 1) := by decide +kernel
theorem dX5_get_23 : decode cX5_get 23 = .ok (.ireturn, 1) := by decide +kernel
theorem dX5_set_0 : decode cX5_set 0 = .ok (.iload_n 1, 1) := by decide +kernel
theorem dX5_set_1 : decode cX5_set 1 = .ok (.ifCond .lt 19, 3) := by decide +kernel
theorem dX5_set_4 : decode cX5_set 4 = .ok (.iload_n 1, 1) := by decide +kernel
theorem dX5_set_5 : decode cX5_set 5 = .ok (.aload_n 0, 1) := by decide +kernel
theorem dX5_set_6 : decode cX5_set 6 = .ok (.getfield 13, 3) := by decide +kernel
theorem dX5_set_9 : decode cX5_set 9 = .ok (.arraylength, 1) := by decide +kernel
theorem dX5_set_10 : decode cX5_set 10 = .ok (.if_icmp .ge 10, 3) := by decide +kernel
theorem dX5_set_13 : decode cX5_set 13 = .ok (.aload_n 0, 1) := by decide +kernel
theorem dX5_set_14 : decode cX5_set 14 = .ok (.getfield 13, 3) := by decide +kernel
theorem dX5_set_17 : decode cX5_set 17 = .ok (.iload_n 1, 1) := by decide +kernel
theorem dX5_set_18 : decode cX5_set 18 = .ok (.iload_n 2, 1) := by decide +kernel
theorem dX5_set_19 : decode cX5_set 19 = .ok (.iastore, 1) := by decide +kernel
theorem dX5_set_20 : decode cX5_set 20 = .ok (.return_, 1) := by decide +kernel
theorem dX5_add_0 : decode cX5_add 0 = .ok (.iload_n 1, 1) := by decide +kernel
theorem dX5_add_1 : decode cX5_add 1 = .ok (.ifCond .lt 22, 3) := by decide +kernel
theorem dX5_add_4 : decode cX5_add 4 = .ok (.iload_n 1, 1) := by decide +kernel
theorem dX5_add_5 : decode cX5_add 5 = .ok (.aload_n 0, 1) := by decide +kernel
theorem dX5_add_6 : decode cX5_add 6 = .ok (.getfield 13, 3) := by decide +kernel
theorem dX5_add_9 : decode cX5_add 9 = .ok (.arraylength, 1) := by decide +kernel
theorem dX5_add_10 : decode cX5_add 10 = .ok (.if_icmp .ge 13, 3) := by decide +kernel
theorem dX5_add_13 : decode cX5_add 13 = .ok (.aload_n 0, 1) := by decide +kernel
theorem dX5_add_14 : decode cX5_add 14 = .ok (.getfield 13, 3) := by decide +kernel
theorem dX5_add_17 : decode cX5_add 17 = .ok (.iload_n 1, 1) := by decide +kernel
theorem dX5_add_18 : decode cX5_add 18 = .ok (.dup2, 1) := by decide +kernel
theorem dX5_add_19 : decode cX5_add 19 = .ok (.iaload, 1) := by decide +kernel
theorem dX5_add_20 : decode cX5_add 20 = .ok (.iload_n 2, 1) := by decide +kernel
theorem dX5_add_21 : decode cX5_add 21 = .ok (.iadd, 1) := by decide +kernel
theorem dX5_add_22 : decode cX5_add 22 = .ok (.iastore, 1) := by decide +kernel
theorem dX5_add_23 : decode cX5_add 23 = .ok (.return_, 1) := by decide +kernel
theorem dX5_is_0 : decode cX5_is 0 = .ok (.iload_n 1, 1) := by decide +kernel
theorem dX5_is_1 : decode cX5_is 1 = .ok (.ifCond .lt 25, 3) := by decide +kernel
theorem dX5_is_4 : decode cX5_is 4 = .ok (.iload_n 1, 1) := by decide +kernel
theorem dX5_is_5 : decode cX5_is 5 = .ok (.aload_n 0, 1) := by decide +kernel
theorem dX5_is_6 : decode cX5_is 6 = .ok (.getfield 13, 3) := by decide +kernel
theorem dX5_is_9 : decode cX5_is 9 = .ok (.arraylength, 1) := by decide +kernel
theorem dX5_is_10 : decode cX5_is 10 = .ok (.if_icmp .ge 16, 3) := by decide +kernel
theorem dX5_is_13 : decode cX5_is 13 = .ok (.aload_n 0, 1) := by decide +kernel
theorem dX5_is_14 : decode cX5_is 14 = .ok (.getfield 13, 3) := by decide +kernel
theorem dX5_is_17 : decode cX5_is 17 = .ok (.iload_n 1, 1) := by decide +kernel
theorem dX5_is_18 : decode cX5_is 18 = .ok (.iaload, 1) := by decide +kernel
theorem dX5_is_19 : decode cX5_is 19 = .ok (.ifCond .eq 7, 3) := by decide +kernel
theorem dX5_is_22 : decode cX5_is 22 = .ok (.iconst 1, 1) := by decide +kernel
theorem dX5_is_23 : decode cX5_is 23 = .ok (.goto 4, 3) := by decide +kernel
theorem dX5_is_26 : decode cX5_is 26 = .ok (.iconst 0, 1) := by decide +kernel
theorem dX5_is_27 : decode cX5_is 27 = .ok (.ireturn, 1) := by decide +kernel
theorem dX5_put_0 : decode cX5_put 0 = .ok (.iload_n 1, 1) := by decide +kernel
theorem dX5_put_1 : decode cX5_put 1 = .ok (.ifCond .lt 27, 3) := by decide +kernel
theorem dX5_put_4 : decode cX5_put 4 = .ok (.iload_n 1, 1) := by decide +kernel
theorem dX5_put_5 : decode cX5_put 5 = .ok (.aload_n 0, 1) := by decide +kernel
theorem dX5_put_6 : decode cX5_put 6 = .ok (.getfield 13, 3) := by decide +kernel
theorem dX5_put_9 : decode cX5_put 9 = .ok (.arraylength, 1) := by decide +kernel
theorem dX5_put_10 : decode cX5_put 10 = .ok (.if_icmp .ge 18, 3) := by decide +kernel
theorem dX5_put_13 : decode cX5_put 13 = .ok (.aload_n 0, 1) := by decide +kernel
theorem dX5_put_14 : decode cX5_put 14 = .ok (.getfield 13, 3) := by decide +kernel
theorem dX5_put_17 : decode cX5_put 17 = .ok (.iload_n 1, 1) := by decide +kernel
theorem dX5_put_18 : decode cX5_put 18 = .ok (.iload_n 2, 1) := by decide +kernel
theorem dX5_put_19 : decode cX5_put 19 = .ok (.ifCond .eq 7, 3) := by decide +kernel
theorem dX5_put_22 : decode cX5_put 22 = .ok (.iconst 1, 1) := by decide +kernel
theorem dX5_put_23 : decode cX5_put 23 = .ok (.goto 4, 3) := by decide +kernel
theorem dX5_put_26 : decode cX5_put 26 = .ok (.iconst 0, 1) := by decide +kernel
theorem dX5_put_27 : decode cX5_put 27 = .ok (.iastore, 1) := by decide +kernel
theorem dX5_put_28 : decode cX5_put 28 = .ok (.return_, 1) := by decide +kernel
set_option maxRecDepth 20000 in
theorem ggX6_init_X5_init : GoodIn wsX6_init wsX5_init := goodIn_r _ [17, 18, 2, 3, 19, 20, 21, 22, 23, 24, 25] (by decide +kernel) (by decide +kernel)
set_option maxRecDepth 20000 in
theorem gX6_init_X5_init : GoodIn wsX6_init (wsX5_init) := ggX6_init_X5_init
theorem dX6_init_0 : decode cX6_init 0 = .ok (.aload_n 0, 1) := by decide +kernel
theorem dX6_init_1 : decode cX6_init 1 = .ok (.invokespecial 7, 3) := by decide +kernel
theorem dX6_init_4 : decode cX6_init 4 = .ok (.aload_n 0, 1) := by decide +kernel
theorem dX6_init_5 : decode cX6_init 5 = .ok (.new 13, 3) := by decide +kernel
theorem dX6_init_8 : decode cX6_init 8 = .ok (.dup, 1) := by decide +kernel
theorem dX6_init_9 : decode cX6_init 9 = .ok (.iconst 4, 1) := by decide +kernel
theorem dX6_init_10 : decode cX6_init 10 = .ok (.invokespecial 15, 3) := by decide +kernel
theorem dX6_init_13 : decode cX6_init 13 = .ok (.putfield 18, 3) := by decide +kernel
theorem dX6_init_16 : decode cX6_init 16 = .ok (.aload_n 0, 1) := by decide +kernel
theorem dX6_init_17 : decode cX6_init 17 = .ok (.new 13, 3) := by decide +kernel
theorem dX6_init_20 : decode cX6_init 20 = .ok (.dup, 1) := by decide +kernel
theorem dX6_init_21 : decode cX6_init 21 = .ok (.sipush 1920, 3) := by decide +kernel
theorem dX6_init_24 : decode cX6_init 24 = .ok (.invokespecial 15, 3) := by decide +kernel
theorem dX6_init_27 : decode cX6_init 27 = .ok (.putfield 22, 3) := by decide +kernel
theorem dX6_init_30 : decode cX6_init 30 = .ok (.aload_n 0, 1) := by decide +kernel
theorem dX6_init_31 : decode cX6_init 31 = .ok (.new 13, 3) := by decide +kernel
theorem dX6_init_34 : decode cX6_init 34 = .ok (.dup, 1) := by decide +kernel
theorem dX6_init_35 : decode cX6_init 35 = .ok (.bipush 24, 2) := by decide +kernel
theorem dX6_init_37 : decode cX6_init 37 = .ok (.invokespecial 15, 3) := by decide +kernel
theorem dX6_init_40 : decode cX6_init 40 = .ok (.putfield 25, 3) := by decide +kernel
theorem dX6_init_43 : decode cX6_init 43 = .ok (.aload_n 0, 1) := by decide +kernel
theorem dX6_init_44 : decode cX6_init 44 = .ok (.new 13, 3) := by decide +kernel
theorem dX6_init_47 : decode cX6_init 47 = .ok (.dup, 1) := by decide +kernel
theorem dX6_init_48 : decode cX6_init 48 = .ok (.bipush 24, 2) := by decide +kernel
theorem dX6_init_50 : decode cX6_init 50 = .ok (.invokespecial 15, 3) := by decide +kernel
theorem dX6_init_53 : decode cX6_init 53 = .ok (.putfield 28, 3) := by decide +kernel
theorem dX6_init_56 : decode cX6_init 56 = .ok (.aload_n 0, 1) := by decide +kernel
theorem dX6_init_57 : decode cX6_init 57 = .ok (.new 13, 3) := by decide +kernel
theorem dX6_init_60 : decode cX6_init 60 = .ok (.dup, 1) := by decide +kernel
theorem dX6_init_61 : decode cX6_init 61 = .ok (.bipush 24, 2) := by decide +kernel
theorem dX6_init_63 : decode cX6_init 63 = .ok (.invokespecial 15, 3) := by decide +kernel
theorem dX6_init_66 : decode cX6_init 66 = .ok (.putfield 31, 3) := by decide +kernel
theorem dX6_init_69 : decode cX6_init 69 = .ok (.aload_n 0, 1) := by decide +kernel
theorem dX6_init_70 : decode cX6_init 70 = .ok (.new 13, 3) := by decide +kernel
theorem dX6_init_73 : decode cX6_init 73 = .ok (.dup, 1) := by decide +kernel
theorem dX6_init_74 : decode cX6_init 74 = .ok (.iconst 5, 1) := by decide +kernel
theorem dX6_init_75 : decode cX6_init 75 = .ok (.invokespecial 15, 3) := by decide +kernel
theorem dX6_init_78 : decode cX6_init 78 = .ok (.putfield 34, 3) := by decide +kernel
theorem dX6_init_81 : decode cX6_init 81 = .ok (.aload_n 0, 1) := by decide +kernel
theorem dX6_init_82 : decode cX6_init 82 = .ok (.new 13, 3) := by decide +kernel
theorem dX6_init_85 : decode cX6_init 85 = .ok (.dup, 1) := by decide +kernel
theorem dX6_init_86 : decode cX6_init 86 = .ok (.iconst 5, 1) := by decide +kernel
theorem dX6_init_87 : decode cX6_init 87 = .ok (.invokespecial 15, 3) := by decide +kernel
theorem dX6_init_90 : decode cX6_init 90 = .ok (.putfield 37, 3) := by decide +kernel
theorem dX6_init_93 : decode cX6_init 93 = .ok (.aload_n 0, 1) := by decide +kernel
theorem dX6_init_94 : decode cX6_init 94 = .ok (.new 13, 3) := by decide +kernel
theorem dX6_init_97 : decode cX6_init 97 = .ok (.dup, 1) := by decide +kernel
theorem dX6_init_98 : decode cX6_init 98 = .ok (.iconst 5, 1) := by decide +kernel
theorem dX6_init_99 : decode cX6_init 99 = .ok (.invokespecial 15, 3) := by decide +kernel
theorem dX6_init_102 : decode cX6_init 102 = .ok (.putfield 40, 3) := by decide +kernel
theorem dX6_init_105 : decode cX6_init 105 = .ok (.return_, 1) := by decide +kernel
set_option maxRecDepth 20000 in
theorem ggX6_has_X5_get : GoodIn wsX6_has wsX5_get := goodIn_r _ [6, 7, 16] (by decide +kernel) (by decide +kernel)
set_option maxRecDepth 20000 in
theorem gX6_has_X5_get : GoodIn wsX6_has (wsV RX6 43 RX5 yX5_get wsX5_get) := goodIn_app (goodIn_of _ (by decide +kernel)) ggX6_has_X5_get
theorem dX6_has_0 : decode cX6_has 0 = .ok (.iload_n 2, 1) := by decide +kernel
theorem dX6_has_1 : decode cX6_has 1 = .ok (.ifCond .lt 19, 3) := by decide +kernel
theorem dX6_has_4 : decode cX6_has 4 = .ok (.iload_n 2, 1) := by decide +kernel
theorem dX6_has_5 : decode cX6_has 5 = .ok (.aload_n 0, 1) := by decide +kernel
theorem dX6_has_6 : decode cX6_has 6 = .ok (.getfield 18, 3) := by decide +kernel
theorem dX6_has_9 : decode cX6_has 9 = .ok (.iload_n 1, 1) := by decide +kernel
theorem dX6_has_10 : decode cX6_has 10 = .ok (.invokevirtual 43, 3) := by decide +kernel
theorem dX6_has_13 : decode cX6_has 13 = .ok (.if_icmp .ge 7, 3) := by decide +kernel
theorem dX6_has_16 : decode cX6_has 16 = .ok (.iconst 1, 1) := by decide +kernel
theorem dX6_has_17 : decode cX6_has 17 = .ok (.goto 4, 3) := by decide +kernel
theorem dX6_has_20 : decode cX6_has 20 = .ok (.iconst 0, 1) := by decide +kernel
theorem dX6_has_21 : decode cX6_has 21 = .ok (.ireturn, 1) := by decide +kernel
set_option maxRecDepth 20000 in
theorem ggX6_enter_X5_get : GoodIn wsX6_enter wsX5_get := goodIn_r _ [14, 15, 38] (by decide +kernel) (by decide +kernel)
set_option maxRecDepth 20000 in
theorem gX6_enter_X5_get : GoodIn wsX6_enter (wsV RX6 43 RX5 yX5_get wsX5_get) := goodIn_app (goodIn_of _ (by decide +kernel)) ggX6_enter_X5_get
set_option maxRecDepth 20000 in
theorem ggX6_enter_X5_set : GoodIn wsX6_enter wsX5_set := goodIn_r _ [19, 15, 38] (by decide +kernel) (by decide +kernel)
set_option maxRecDepth 20000 in
theorem gX6_enter_X5_set : GoodIn wsX6_enter (wsV RX6 52 RX5 yX5_set wsX5_set) := goodIn_app (goodIn_of _ (by decide +kernel)) ggX6_enter_X5_set
set_option maxRecDepth 20000 in
theorem ggX6_enter_X5_add : GoodIn wsX6_enter wsX5_add := goodIn_r _ [23, 15, 38] (by decide +kernel) (by decide +kernel)
set_option maxRecDepth 20000 in
theorem gX6_enter_X5_add : GoodIn wsX6_enter (wsV RX6 61 RX5 yX5_add wsX5_add) := goodIn_app (goodIn_of _ (by decide +kernel)) ggX6_enter_X5_add
theorem dX6_enter_0 : decode cX6_enter 0 = .ok (.aload_n 0, 1) := by decide +kernel
theorem dX6_enter_1 : decode cX6_enter 1 = .ok (.getfield 18, 3) := by decide +kernel
theorem dX6_enter_4 : decode cX6_enter 4 = .ok (.iload_n 1, 1) := by decide +kernel
theorem dX6_enter_5 : decode cX6_enter 5 = .ok (.invokevirtual 43, 3) := by decide +kernel
theorem dX6_enter_8 : decode cX6_enter 8 = .ok (.istore_n 3, 1) := by decide +kernel
theorem dX6_enter_9 : decode cX6_enter 9 = .ok (.iload_n 1, 1) := by decide +kernel
theorem dX6_enter_10 : decode cX6_enter 10 = .ok (.bipush 6, 2) := by decide +kernel
theorem dX6_enter_12 : decode cX6_enter 12 = .ok (.imul, 1) := by decide +kernel
theorem dX6_enter_13 : decode cX6_enter 13 = .ok (.iload_n 3, 1) := by decide +kernel
theorem dX6_enter_14 : decode cX6_enter 14 = .ok (.iadd, 1) := by decide +kernel
theorem dX6_enter_15 : decode cX6_enter 15 = .ok (.istore 4, 2) := by decide +kernel
theorem dX6_enter_17 : decode cX6_enter 17 = .ok (.iconst 0, 1) := by decide +kernel
theorem dX6_enter_18 : decode cX6_enter 18 = .ok (.istore 5, 2) := by decide +kernel
theorem dX6_enter_20 : decode cX6_enter 20 = .ok (.iload 5, 2) := by decide +kernel
theorem dX6_enter_22 : decode cX6_enter 22 = .ok (.aload_n 2, 1) := by decide +kernel
theorem dX6_enter_23 : decode cX6_enter 23 = .ok (.getfield 47, 3) := by decide +kernel
theorem dX6_enter_26 : decode cX6_enter 26 = .ok (.if_icmp .ge 33, 3) := by decide +kernel
theorem dX6_enter_29 : decode cX6_enter 29 = .ok (.aload_n 0, 1) := by decide +kernel
theorem dX6_enter_30 : decode cX6_enter 30 = .ok (.getfield 22, 3) := by decide +kernel
theorem dX6_enter_33 : decode cX6_enter 33 = .ok (.iload 4, 2) := by decide +kernel
theorem dX6_enter_35 : decode cX6_enter 35 = .ok (.bipush 80, 2) := by decide +kernel
theorem dX6_enter_37 : decode cX6_enter 37 = .ok (.imul, 1) := by decide +kernel
theorem dX6_enter_38 : decode cX6_enter 38 = .ok (.iload 5, 2) := by decide +kernel
theorem dX6_enter_40 : decode cX6_enter 40 = .ok (.iadd, 1) := by decide +kernel
theorem dX6_enter_41 : decode cX6_enter 41 = .ok (.aload_n 2, 1) := by decide +kernel
theorem dX6_enter_42 : decode cX6_enter 42 = .ok (.getfield 51, 3) := by decide +kernel
theorem dX6_enter_45 : decode cX6_enter 45 = .ok (.iload 5, 2) := by decide +kernel
theorem dX6_enter_47 : decode cX6_enter 47 = .ok (.invokevirtual 43, 3) := by decide +kernel
theorem dX6_enter_50 : decode cX6_enter 50 = .ok (.invokevirtual 52, 3) := by decide +kernel
theorem dX6_enter_53 : decode cX6_enter 53 = .ok (.iinc 5 1, 3) := by decide +kernel
theorem dX6_enter_56 : decode cX6_enter 56 = .ok (.goto (-36), 3) := by decide +kernel
theorem dX6_enter_59 : decode cX6_enter 59 = .ok (.aload_n 0, 1) := by decide +kernel
theorem dX6_enter_60 : decode cX6_enter 60 = .ok (.getfield 25, 3) := by decide +kernel
theorem dX6_enter_63 : decode cX6_enter 63 = .ok (.iload 4, 2) := by decide +kernel
theorem dX6_enter_65 : decode cX6_enter 65 = .ok (.aload_n 2, 1) := by decide +kernel
theorem dX6_enter_66 : decode cX6_enter 66 = .ok (.getfield 47, 3) := by decide +kernel
theorem dX6_enter_69 : decode cX6_enter 69 = .ok (.invokevirtual 52, 3) := by decide +kernel
theorem dX6_enter_72 : decode cX6_enter 72 = .ok (.aload_n 0, 1) := by decide +kernel
theorem dX6_enter_73 : decode cX6_enter 73 = .ok (.getfield 28, 3) := by decide +kernel
theorem dX6_enter_76 : decode cX6_enter 76 = .ok (.iload 4, 2) := by decide +kernel
theorem dX6_enter_78 : decode cX6_enter 78 = .ok (.aload_n 2, 1) := by decide +kernel
theorem dX6_enter_79 : decode cX6_enter 79 = .ok (.getfield 56, 3) := by decide +kernel
theorem dX6_enter_82 : decode cX6_enter 82 = .ok (.invokevirtual 52, 3) := by decide +kernel
theorem dX6_enter_85 : decode cX6_enter 85 = .ok (.aload_n 0, 1) := by decide +kernel
theorem dX6_enter_86 : decode cX6_enter 86 = .ok (.getfield 31, 3) := by decide +kernel
theorem dX6_enter_89 : decode cX6_enter 89 = .ok (.iload 4, 2) := by decide +kernel
theorem dX6_enter_91 : decode cX6_enter 91 = .ok (.aload_n 2, 1) := by decide +kernel
theorem dX6_enter_92 : decode cX6_enter 92 = .ok (.getfield 58, 3) := by decide +kernel
theorem dX6_enter_95 : decode cX6_enter 95 = .ok (.iconst (-1), 1) := by decide +kernel
theorem dX6_enter_96 : decode cX6_enter 96 = .ok (.if_icmp .ne 8, 3) := by decide +kernel
theorem dX6_enter_99 : decode cX6_enter 99 = .ok (.bipush 99, 2) := by decide +kernel
theorem dX6_enter_101 : decode cX6_enter 101 = .ok (.goto 7, 3) := by decide +kernel
theorem dX6_enter_104 : decode cX6_enter 104 = .ok (.aload_n 2, 1) := by decide +kernel
theorem dX6_enter_105 : decode cX6_enter 105 = .ok (.getfield 58, 3) := by decide +kernel
theorem dX6_enter_108 : decode cX6_enter 108 = .ok (.invokevirtual 52, 3) := by decide +kernel
theorem dX6_enter_111 : decode cX6_enter 111 = .ok (.aload_n 0, 1) := by decide +kernel
theorem dX6_enter_112 : decode cX6_enter 112 = .ok (.getfield 18, 3) := by decide +kernel
theorem dX6_enter_115 : decode cX6_enter 115 = .ok (.iload_n 1, 1) := by decide +kernel
theorem dX6_enter_116 : decode cX6_enter 116 = .ok (.iconst 1, 1) := by decide +kernel
theorem dX6_enter_117 : decode cX6_enter 117 = .ok (.invokevirtual 61, 3) := by decide +kernel
theorem dX6_enter_120 : decode cX6_enter 120 = .ok (.iload_n 3, 1) := by decide +kernel
theorem dX6_enter_121 : decode cX6_enter 121 = .ok (.ireturn, 1) := by decide +kernel
set_option maxRecDepth 20000 in
theorem ggX6_signAt_X5_get : GoodIn wsX6_signAt wsX5_get := goodIn_r _ [7, 8, 17] (by decide +kernel) (by decide +kernel)
set_option maxRecDepth 20000 in
theorem gX6_signAt_X5_get : GoodIn wsX6_signAt (wsV RX6 43 RX5 yX5_get wsX5_get) := goodIn_app (goodIn_of _ (by decide +kernel)) ggX6_signAt_X5_get
theorem dX6_signAt_0 : decode cX6_signAt 0 = .ok (.iload_n 1, 1) := by decide +kernel
theorem dX6_signAt_1 : decode cX6_signAt 1 = .ok (.bipush 6, 2) := by decide +kernel
theorem dX6_signAt_3 : decode cX6_signAt 3 = .ok (.imul, 1) := by decide +kernel
theorem dX6_signAt_4 : decode cX6_signAt 4 = .ok (.iload_n 2, 1) := by decide +kernel
theorem dX6_signAt_5 : decode cX6_signAt 5 = .ok (.iadd, 1) := by decide +kernel
theorem dX6_signAt_6 : decode cX6_signAt 6 = .ok (.istore 4, 2) := by decide +kernel
theorem dX6_signAt_8 : decode cX6_signAt 8 = .ok (.iload_n 3, 1) := by decide +kernel
theorem dX6_signAt_9 : decode cX6_signAt 9 = .ok (.aload_n 0, 1) := by decide +kernel
theorem dX6_signAt_10 : decode cX6_signAt 10 = .ok (.getfield 25, 3) := by decide +kernel
theorem dX6_signAt_13 : decode cX6_signAt 13 = .ok (.iload 4, 2) := by decide +kernel
theorem dX6_signAt_15 : decode cX6_signAt 15 = .ok (.invokevirtual 43, 3) := by decide +kernel
theorem dX6_signAt_18 : decode cX6_signAt 18 = .ok (.if_icmp .ge 20, 3) := by decide +kernel
theorem dX6_signAt_21 : decode cX6_signAt 21 = .ok (.aload_n 0, 1) := by decide +kernel
theorem dX6_signAt_22 : decode cX6_signAt 22 = .ok (.getfield 22, 3) := by decide +kernel
theorem dX6_signAt_25 : decode cX6_signAt 25 = .ok (.iload 4, 2) := by decide +kernel
theorem dX6_signAt_27 : decode cX6_signAt 27 = .ok (.bipush 80, 2) := by decide +kernel
theorem dX6_signAt_29 : decode cX6_signAt 29 = .ok (.imul, 1) := by decide +kernel
theorem dX6_signAt_30 : decode cX6_signAt 30 = .ok (.iload_n 3, 1) := by decide +kernel
theorem dX6_signAt_31 : decode cX6_signAt 31 = .ok (.iadd, 1) := by decide +kernel
theorem dX6_signAt_32 : decode cX6_signAt 32 = .ok (.invokevirtual 43, 3) := by decide +kernel
theorem dX6_signAt_35 : decode cX6_signAt 35 = .ok (.goto 4, 3) := by decide +kernel
theorem dX6_signAt_38 : decode cX6_signAt 38 = .ok (.iconst 0, 1) := by decide +kernel
theorem dX6_signAt_39 : decode cX6_signAt 39 = .ok (.ireturn, 1) := by decide +kernel
set_option maxRecDepth 20000 in
theorem ggX6_lettersOfLatest_X5_get : GoodIn wsX6_lettersOfLatest wsX5_get := goodIn_r _ [7, 8, 17] (by decide +kernel) (by decide +kernel)
set_option maxRecDepth 20000 in
theorem gX6_lettersOfLatest_X5_get : GoodIn wsX6_lettersOfLatest (wsV RX6 43 RX5 yX5_get wsX5_get) := goodIn_app (goodIn_of _ (by decide +kernel)) ggX6_lettersOfLatest_X5_get
theorem dX6_lettersOfLatest_0 : decode cX6_lettersOfLatest 0 = .ok (.aload_n 0, 1) := by decide +kernel
theorem dX6_lettersOfLatest_1 : decode cX6_lettersOfLatest 1 = .ok (.getfield 28, 3) := by decide +kernel
theorem dX6_lettersOfLatest_4 : decode cX6_lettersOfLatest 4 = .ok (.iload_n 1, 1) := by decide +kernel
theorem dX6_lettersOfLatest_5 : decode cX6_lettersOfLatest 5 = .ok (.bipush 6, 2) := by decide +kernel
theorem dX6_lettersOfLatest_7 : decode cX6_lettersOfLatest 7 = .ok (.imul, 1) := by decide +kernel
theorem dX6_lettersOfLatest_8 : decode cX6_lettersOfLatest 8 = .ok (.aload_n 0, 1) := by decide +kernel
theorem dX6_lettersOfLatest_9 : decode cX6_lettersOfLatest 9 = .ok (.getfield 18, 3) := by decide +kernel
theorem dX6_lettersOfLatest_12 : decode cX6_lettersOfLatest 12 = .ok (.iload_n 1, 1) := by decide +kernel
theorem dX6_lettersOfLatest_13 : decode cX6_lettersOfLatest 13 = .ok (.invokevirtual 43, 3) := by decide +kernel
theorem dX6_lettersOfLatest_16 : decode cX6_lettersOfLatest 16 = .ok (.iadd, 1) := by decide +kernel
theorem dX6_lettersOfLatest_17 : decode cX6_lettersOfLatest 17 = .ok (.iconst 1, 1) := by decide +kernel
theorem dX6_lettersOfLatest_18 : decode cX6_lettersOfLatest 18 = .ok (.isub, 1) := by decide +kernel
theorem dX6_lettersOfLatest_19 : decode cX6_lettersOfLatest 19 = .ok (.invokevirtual 43, 3) := by decide +kernel
theorem dX6_lettersOfLatest_22 : decode cX6_lettersOfLatest 22 = .ok (.ireturn, 1) := by decide +kernel
set_option maxRecDepth 20000 in
theorem ggX6_markByLatest_X5_get : GoodIn wsX6_markByLatest wsX5_get := goodIn_r _ [6, 7, 50] (by decide +kernel) (by decide +kernel)
set_option maxRecDepth 20000 in
theorem gX6_markByLatest_X5_get : GoodIn wsX6_markByLatest (wsV RX6 43 RX5 yX5_get wsX5_get) := goodIn_app (goodIn_of _ (by decide +kernel)) ggX6_markByLatest_X5_get
set_option maxRecDepth 20000 in
theorem ggX6_markByLatest_X6_markBy : GoodIn wsX6_markByLatest wsX6_markBy := goodIn_r _ [12, 13, 14, 15, 16, 17, 18, 19, 20, 21, 22, 2, 3, 4, 5, 6, 7, 23, 24, 25, 11, 26, 27, 28, 29, 30, 31, 32, 33, 34, 35, 36, 37, 38, 39, 40, 41, 42, 43, 44, 45, 46, 47, 48, 49, 50] (by decide +kernel) (by decide +kernel)
set_option maxRecDepth 20000 in
theorem gX6_markByLatest_X6_markBy : GoodIn wsX6_markByLatest (wsV RX6 64 RX6 yX6_markBy wsX6_markBy) := goodIn_app (goodIn_of _ (by decide +kernel)) ggX6_markByLatest_X6_markBy
theorem dX6_markByLatest_0 : decode cX6_markByLatest 0 = .ok (.aload_n 0, 1) := by decide +kernel
theorem dX6_markByLatest_1 : decode cX6_markByLatest 1 = .ok (.iload_n 1, 1) := by decide +kernel
theorem dX6_markByLatest_2 : decode cX6_markByLatest 2 = .ok (.aload_n 0, 1) := by decide +kernel
theorem dX6_markByLatest_3 : decode cX6_markByLatest 3 = .ok (.getfield 18, 3) := by decide +kernel
theorem dX6_markByLatest_6 : decode cX6_markByLatest 6 = .ok (.iload_n 1, 1) := by decide +kernel
theorem dX6_markByLatest_7 : decode cX6_markByLatest 7 = .ok (.invokevirtual 43, 3) := by decide +kernel
theorem dX6_markByLatest_10 : decode cX6_markByLatest 10 = .ok (.iconst 1, 1) := by decide +kernel
theorem dX6_markByLatest_11 : decode cX6_markByLatest 11 = .ok (.isub, 1) := by decide +kernel
theorem dX6_markByLatest_12 : decode cX6_markByLatest 12 = .ok (.iload_n 2, 1) := by decide +kernel
theorem dX6_markByLatest_13 : decode cX6_markByLatest 13 = .ok (.invokevirtual 64, 3) := by decide +kernel
theorem dX6_markByLatest_16 : decode cX6_markByLatest 16 = .ok (.ireturn, 1) := by decide +kernel
set_option maxRecDepth 20000 in
theorem ggX6_markBy_X5_get : GoodIn wsX6_markBy wsX5_get := goodIn_r _ [15, 16, 45] (by decide +kernel) (by decide +kernel)
set_option maxRecDepth 20000 in
theorem gX6_markBy_X5_get : GoodIn wsX6_markBy (wsV RX6 43 RX5 yX5_get wsX5_get) := goodIn_app (goodIn_of _ (by decide +kernel)) ggX6_markBy_X5_get
set_option maxRecDepth 20000 in
theorem ggX6_markBy_X6_begin : GoodIn wsX6_markBy wsX6_begin := goodIn_r _ [21, 3, 5, 4, 22, 23, 24, 14, 25, 16, 37, 38, 39, 40, 41, 42, 43, 44, 45] (by decide +kernel) (by decide +kernel)
set_option maxRecDepth 20000 in
theorem gX6_markBy_X6_begin : GoodIn wsX6_markBy (wsV RX6 68 RX6 yX6_begin wsX6_begin) := goodIn_app (goodIn_of _ (by decide +kernel)) ggX6_markBy_X6_begin
set_option maxRecDepth 20000 in
theorem ggX6_markBy_X5_add : GoodIn wsX6_markBy wsX5_add := goodIn_r _ [29, 16, 45] (by decide +kernel) (by decide +kernel)
set_option maxRecDepth 20000 in
theorem gX6_markBy_X5_add : GoodIn wsX6_markBy (wsV RX6 61 RX5 yX5_add wsX5_add) := goodIn_app (goodIn_of _ (by decide +kernel)) ggX6_markBy_X5_add
set_option maxRecDepth 20000 in
theorem ggX6_markBy_X6_endSum : GoodIn wsX6_markBy wsX6_endSum := goodIn_r _ [33, 5, 3, 34, 35, 9, 36, 11, 12, 13, 14, 15, 16, 22, 23, 24, 25, 37, 38, 39, 40, 41, 42, 43, 44, 45] (by decide +kernel) (by decide +kernel)
set_option maxRecDepth 20000 in
theorem gX6_markBy_X6_endSum : GoodIn wsX6_markBy (wsV RX6 71 RX6 yX6_endSum wsX6_endSum) := goodIn_app (goodIn_of _ (by decide +kernel)) ggX6_markBy_X6_endSum
theorem dX6_markBy_0 : decode cX6_markBy 0 = .ok (.iload_n 1, 1) := by decide +kernel
theorem dX6_markBy_1 : decode cX6_markBy 1 = .ok (.bipush 6, 2) := by decide +kernel
theorem dX6_markBy_3 : decode cX6_markBy 3 = .ok (.imul, 1) := by decide +kernel
theorem dX6_markBy_4 : decode cX6_markBy 4 = .ok (.iload_n 2, 1) := by decide +kernel
theorem dX6_markBy_5 : decode cX6_markBy 5 = .ok (.iadd, 1) := by decide +kernel
theorem dX6_markBy_6 : decode cX6_markBy 6 = .ok (.istore 4, 2) := by decide +kernel
theorem dX6_markBy_8 : decode cX6_markBy 8 = .ok (.aload_n 0, 1) := by decide +kernel
theorem dX6_markBy_9 : decode cX6_markBy 9 = .ok (.getfield 25, 3) := by decide +kernel
theorem dX6_markBy_12 : decode cX6_markBy 12 = .ok (.iload 4, 2) := by decide +kernel
theorem dX6_markBy_14 : decode cX6_markBy 14 = .ok (.invokevirtual 43, 3) := by decide +kernel
theorem dX6_markBy_17 : decode cX6_markBy 17 = .ok (.istore 5, 2) := by decide +kernel
theorem dX6_markBy_19 : decode cX6_markBy 19 = .ok (.iconst 0, 1) := by decide +kernel
theorem dX6_markBy_20 : decode cX6_markBy 20 = .ok (.istore 6, 2) := by decide +kernel
theorem dX6_markBy_22 : decode cX6_markBy 22 = .ok (.iconst 1, 1) := by decide +kernel
theorem dX6_markBy_23 : decode cX6_markBy 23 = .ok (.istore 7, 2) := by decide +kernel
theorem dX6_markBy_25 : decode cX6_markBy 25 = .ok (.aload_n 0, 1) := by decide +kernel
theorem dX6_markBy_26 : decode cX6_markBy 26 = .ok (.iload 6, 2) := by decide +kernel
theorem dX6_markBy_28 : decode cX6_markBy 28 = .ok (.iload 7, 2) := by decide +kernel
theorem dX6_markBy_30 : decode cX6_markBy 30 = .ok (.invokevirtual 68, 3) := by decide +kernel
theorem dX6_markBy_33 : decode cX6_markBy 33 = .ok (.iconst 0, 1) := by decide +kernel
theorem dX6_markBy_34 : decode cX6_markBy 34 = .ok (.istore 8, 2) := by decide +kernel
theorem dX6_markBy_36 : decode cX6_markBy 36 = .ok (.iload 8, 2) := by decide +kernel
theorem dX6_markBy_38 : decode cX6_markBy 38 = .ok (.iload 5, 2) := by decide +kernel
theorem dX6_markBy_40 : decode cX6_markBy 40 = .ok (.if_icmp .ge 170, 3) := by decide +kernel
theorem dX6_markBy_43 : decode cX6_markBy 43 = .ok (.aload_n 0, 1) := by decide +kernel
theorem dX6_markBy_44 : decode cX6_markBy 44 = .ok (.getfield 22, 3) := by decide +kernel
theorem dX6_markBy_47 : decode cX6_markBy 47 = .ok (.iload 4, 2) := by decide +kernel
theorem dX6_markBy_49 : decode cX6_markBy 49 = .ok (.bipush 80, 2) := by decide +kernel
theorem dX6_markBy_51 : decode cX6_markBy 51 = .ok (.imul, 1) := by decide +kernel
theorem dX6_markBy_52 : decode cX6_markBy 52 = .ok (.iload 8, 2) := by decide +kernel
theorem dX6_markBy_54 : decode cX6_markBy 54 = .ok (.iadd, 1) := by decide +kernel
theorem dX6_markBy_55 : decode cX6_markBy 55 = .ok (.invokevirtual 43, 3) := by decide +kernel
theorem dX6_markBy_58 : decode cX6_markBy 58 = .ok (.istore 9, 2) := by decide +kernel
theorem dX6_markBy_60 : decode cX6_markBy 60 = .ok (.iload 9, 2) := by decide +kernel
theorem dX6_markBy_62 : decode cX6_markBy 62 = .ok (.bipush 60, 2) := by decide +kernel
theorem dX6_markBy_64 : decode cX6_markBy 64 = .ok (.if_icmp .ne 6, 3) := by decide +kernel
theorem dX6_markBy_67 : decode cX6_markBy 67 = .ok (.goto 143, 3) := by decide +kernel
theorem dX6_markBy_70 : decode cX6_markBy 70 = .ok (.iload 9, 2) := by decide +kernel
theorem dX6_markBy_72 : decode cX6_markBy 72 = .ok (.bipush 49, 2) := by decide +kernel
theorem dX6_markBy_74 : decode cX6_markBy 74 = .ok (.if_icmp .lt 17, 3) := by decide +kernel
theorem dX6_markBy_77 : decode cX6_markBy 77 = .ok (.iload 9, 2) := by decide +kernel
theorem dX6_markBy_79 : decode cX6_markBy 79 = .ok (.bipush 57, 2) := by decide +kernel
theorem dX6_markBy_81 : decode cX6_markBy 81 = .ok (.if_icmp .gt 10, 3) := by decide +kernel
theorem dX6_markBy_84 : decode cX6_markBy 84 = .ok (.iload 9, 2) := by decide +kernel
theorem dX6_markBy_86 : decode cX6_markBy 86 = .ok (.bipush 48, 2) := by decide +kernel
theorem dX6_markBy_88 : decode cX6_markBy 88 = .ok (.isub, 1) := by decide +kernel
theorem dX6_markBy_89 : decode cX6_markBy 89 = .ok (.istore 7, 2) := by decide +kernel
theorem dX6_markBy_91 : decode cX6_markBy 91 = .ok (.iload 9, 2) := by decide +kernel
theorem dX6_markBy_93 : decode cX6_markBy 93 = .ok (.bipush 97, 2) := by decide +kernel
theorem dX6_markBy_95 : decode cX6_markBy 95 = .ok (.if_icmp .lt 31, 3) := by decide +kernel
theorem dX6_markBy_98 : decode cX6_markBy 98 = .ok (.iload 9, 2) := by decide +kernel
theorem dX6_markBy_100 : decode cX6_markBy 100 = .ok (.bipush 104, 2) := by decide +kernel
theorem dX6_markBy_102 : decode cX6_markBy 102 = .ok (.if_icmp .gt 24, 3) := by decide +kernel
theorem dX6_markBy_105 : decode cX6_markBy 105 = .ok (.aload_n 0, 1) := by decide +kernel
theorem dX6_markBy_106 : decode cX6_markBy 106 = .ok (.getfield 34, 3) := by decide +kernel
theorem dX6_markBy_109 : decode cX6_markBy 109 = .ok (.iload 6, 2) := by decide +kernel
theorem dX6_markBy_111 : decode cX6_markBy 111 = .ok (.iload 7, 2) := by decide +kernel
theorem dX6_markBy_113 : decode cX6_markBy 113 = .ok (.iload_n 3, 1) := by decide +kernel
theorem dX6_markBy_114 : decode cX6_markBy 114 = .ok (.iload 9, 2) := by decide +kernel
theorem dX6_markBy_116 : decode cX6_markBy 116 = .ok (.bipush 97, 2) := by decide +kernel
theorem dX6_markBy_118 : decode cX6_markBy 118 = .ok (.isub, 1) := by decide +kernel
theorem dX6_markBy_119 : decode cX6_markBy 119 = .ok (.ishr, 1) := by decide +kernel
theorem dX6_markBy_120 : decode cX6_markBy 120 = .ok (.iconst 1, 1) := by decide +kernel
theorem dX6_markBy_121 : decode cX6_markBy 121 = .ok (.iand, 1) := by decide +kernel
theorem dX6_markBy_122 : decode cX6_markBy 122 = .ok (.imul, 1) := by decide +kernel
theorem dX6_markBy_123 : decode cX6_markBy 123 = .ok (.invokevirtual 61, 3) := by decide +kernel
theorem dX6_markBy_126 : decode cX6_markBy 126 = .ok (.iload 9, 2) := by decide +kernel
theorem dX6_markBy_128 : decode cX6_markBy 128 = .ok (.bipush 40, 2) := by decide +kernel
theorem dX6_markBy_130 : decode cX6_markBy 130 = .ok (.if_icmp .ne 14, 3) := by decide +kernel
theorem dX6_markBy_133 : decode cX6_markBy 133 = .ok (.iinc 6 1, 3) := by decide +kernel
theorem dX6_markBy_136 : decode cX6_markBy 136 = .ok (.aload_n 0, 1) := by decide +kernel
theorem dX6_markBy_137 : decode cX6_markBy 137 = .ok (.iload 6, 2) := by decide +kernel
theorem dX6_markBy_139 : decode cX6_markBy 139 = .ok (.iload 7, 2) := by decide +kernel
theorem dX6_markBy_141 : decode cX6_markBy 141 = .ok (.invokevirtual 68, 3) := by decide +kernel
theorem dX6_markBy_144 : decode cX6_markBy 144 = .ok (.iload 9, 2) := by decide +kernel
theorem dX6_markBy_146 : decode cX6_markBy 146 = .ok (.bipush 124, 2) := by decide +kernel
theorem dX6_markBy_148 : decode cX6_markBy 148 = .ok (.if_icmp .eq 10, 3) := by decide +kernel
theorem dX6_markBy_151 : decode cX6_markBy 151 = .ok (.iload 9, 2) := by decide +kernel
theorem dX6_markBy_153 : decode cX6_markBy 153 = .ok (.bipush 41, 2) := by decide +kernel
theorem dX6_markBy_155 : decode cX6_markBy 155 = .ok (.if_icmp .ne 9, 3) := by decide +kernel
theorem dX6_markBy_158 : decode cX6_markBy 158 = .ok (.aload_n 0, 1) := by decide +kernel
theorem dX6_markBy_159 : decode cX6_markBy 159 = .ok (.iload 6, 2) := by decide +kernel
theorem dX6_markBy_161 : decode cX6_markBy 161 = .ok (.invokevirtual 71, 3) := by decide +kernel
theorem dX6_markBy_164 : decode cX6_markBy 164 = .ok (.iload 9, 2) := by decide +kernel
theorem dX6_markBy_166 : decode cX6_markBy 166 = .ok (.bipush 41, 2) := by decide +kernel
theorem dX6_markBy_168 : decode cX6_markBy 168 = .ok (.if_icmp .ne 36, 3) := by decide +kernel
theorem dX6_markBy_171 : decode cX6_markBy 171 = .ok (.aload_n 0, 1) := by decide +kernel
theorem dX6_markBy_172 : decode cX6_markBy 172 = .ok (.getfield 34, 3) := by decide +kernel
theorem dX6_markBy_175 : decode cX6_markBy 175 = .ok (.iload 6, 2) := by decide +kernel
theorem dX6_markBy_177 : decode cX6_markBy 177 = .ok (.iconst 1, 1) := by decide +kernel
theorem dX6_markBy_178 : decode cX6_markBy 178 = .ok (.isub, 1) := by decide +kernel
theorem dX6_markBy_179 : decode cX6_markBy 179 = .ok (.aload_n 0, 1) := by decide +kernel
theorem dX6_markBy_180 : decode cX6_markBy 180 = .ok (.getfield 40, 3) := by decide +kernel
theorem dX6_markBy_183 : decode cX6_markBy 183 = .ok (.iload 6, 2) := by decide +kernel
theorem dX6_markBy_185 : decode cX6_markBy 185 = .ok (.invokevirtual 43, 3) := by decide +kernel
theorem dX6_markBy_188 : decode cX6_markBy 188 = .ok (.aload_n 0, 1) := by decide +kernel
theorem dX6_markBy_189 : decode cX6_markBy 189 = .ok (.getfield 37, 3) := by decide +kernel
theorem dX6_markBy_192 : decode cX6_markBy 192 = .ok (.iload 6, 2) := by decide +kernel
theorem dX6_markBy_194 : decode cX6_markBy 194 = .ok (.invokevirtual 43, 3) := by decide +kernel
theorem dX6_markBy_197 : decode cX6_markBy 197 = .ok (.imul, 1) := by decide +kernel
theorem dX6_markBy_198 : decode cX6_markBy 198 = .ok (.invokevirtual 61, 3) := by decide +kernel
theorem dX6_markBy_201 : decode cX6_markBy 201 = .ok (.iinc 6 (-1), 3) := by decide +kernel
theorem dX6_markBy_204 : decode cX6_markBy 204 = .ok (.iinc 8 1, 3) := by decide +kernel
theorem dX6_markBy_207 : decode cX6_markBy 207 = .ok (.goto (-171), 3) := by decide +kernel
theorem dX6_markBy_210 : decode cX6_markBy 210 = .ok (.aload_n 0, 1) := by decide +kernel
theorem dX6_markBy_211 : decode cX6_markBy 211 = .ok (.getfield 34, 3) := by decide +kernel
theorem dX6_markBy_214 : decode cX6_markBy 214 = .ok (.iconst 0, 1) := by decide +kernel
theorem dX6_markBy_215 : decode cX6_markBy 215 = .ok (.invokevirtual 43, 3) := by decide +kernel
theorem dX6_markBy_218 : decode cX6_markBy 218 = .ok (.aload_n 0, 1) := by decide +kernel
theorem dX6_markBy_219 : decode cX6_markBy 219 = .ok (.getfield 31, 3) := by decide +kernel
theorem dX6_markBy_222 : decode cX6_markBy 222 = .ok (.iload 4, 2) := by decide +kernel
theorem dX6_markBy_224 : decode cX6_markBy 224 = .ok (.invokevirtual 43, 3) := by decide +kernel
theorem dX6_markBy_227 : decode cX6_markBy 227 = .ok (.invokestatic 74, 3) := by decide +kernel
theorem dX6_markBy_230 : decode cX6_markBy 230 = .ok (.ireturn, 1) := by decide +kernel
set_option maxRecDepth 20000 in
theorem ggX6_begin_X5_set : GoodIn wsX6_begin wsX5_set := goodIn_r _ [8, 9, 18] (by decide +kernel) (by decide +kernel)
set_option maxRecDepth 20000 in
theorem gX6_begin_X5_set : GoodIn wsX6_begin (wsV RX6 52 RX5 yX5_set wsX5_set) := goodIn_app (goodIn_of _ (by decide +kernel)) ggX6_begin_X5_set
theorem dX6_begin_0 : decode cX6_begin 0 = .ok (.aload_n 0, 1) := by decide +kernel
theorem dX6_begin_1 : decode cX6_begin 1 = .ok (.getfield 34, 3) := by decide +kernel
theorem dX6_begin_4 : decode cX6_begin 4 = .ok (.iload_n 1, 1) := by decide +kernel
theorem dX6_begin_5 : decode cX6_begin 5 = .ok (.iconst 0, 1) := by decide +kernel
theorem dX6_begin_6 : decode cX6_begin 6 = .ok (.invokevirtual 52, 3) := by decide +kernel
theorem dX6_begin_9 : decode cX6_begin 9 = .ok (.aload_n 0, 1) := by decide +kernel
theorem dX6_begin_10 : decode cX6_begin 10 = .ok (.getfield 37, 3) := by decide +kernel
theorem dX6_begin_13 : decode cX6_begin 13 = .ok (.iload_n 1, 1) := by decide +kernel
theorem dX6_begin_14 : decode cX6_begin 14 = .ok (.iconst 0, 1) := by decide +kernel
theorem dX6_begin_15 : decode cX6_begin 15 = .ok (.invokevirtual 52, 3) := by decide +kernel
theorem dX6_begin_18 : decode cX6_begin 18 = .ok (.aload_n 0, 1) := by decide +kernel
theorem dX6_begin_19 : decode cX6_begin 19 = .ok (.getfield 40, 3) := by decide +kernel
theorem dX6_begin_22 : decode cX6_begin 22 = .ok (.iload_n 1, 1) := by decide +kernel
theorem dX6_begin_23 : decode cX6_begin 23 = .ok (.iload_n 2, 1) := by decide +kernel
theorem dX6_begin_24 : decode cX6_begin 24 = .ok (.invokevirtual 52, 3) := by decide +kernel
theorem dX6_begin_27 : decode cX6_begin 27 = .ok (.return_, 1) := by decide +kernel
set_option maxRecDepth 20000 in
theorem ggX6_endSum_X5_get : GoodIn wsX6_endSum wsX5_get := goodIn_r _ [11, 12, 25] (by decide +kernel) (by decide +kernel)
set_option maxRecDepth 20000 in
theorem gX6_endSum_X5_get : GoodIn wsX6_endSum (wsV RX6 43 RX5 yX5_get wsX5_get) := goodIn_app (goodIn_of _ (by decide +kernel)) ggX6_endSum_X5_get
set_option maxRecDepth 20000 in
theorem ggX6_endSum_X5_set : GoodIn wsX6_endSum wsX5_set := goodIn_r _ [16, 12, 25] (by decide +kernel) (by decide +kernel)
set_option maxRecDepth 20000 in
theorem gX6_endSum_X5_set : GoodIn wsX6_endSum (wsV RX6 52 RX5 yX5_set wsX5_set) := goodIn_app (goodIn_of _ (by decide +kernel)) ggX6_endSum_X5_set
theorem dX6_endSum_0 : decode cX6_endSum 0 = .ok (.aload_n 0, 1) := by decide +kernel
theorem dX6_endSum_1 : decode cX6_endSum 1 = .ok (.getfield 37, 3) := by decide +kernel
theorem dX6_endSum_4 : decode cX6_endSum 4 = .ok (.iload_n 1, 1) := by decide +kernel
theorem dX6_endSum_5 : decode cX6_endSum 5 = .ok (.aload_n 0, 1) := by decide +kernel
theorem dX6_endSum_6 : decode cX6_endSum 6 = .ok (.getfield 37, 3) := by decide +kernel
theorem dX6_endSum_9 : decode cX6_endSum 9 = .ok (.iload_n 1, 1) := by decide +kernel
theorem dX6_endSum_10 : decode cX6_endSum 10 = .ok (.invokevirtual 43, 3) := by decide +kernel
theorem dX6_endSum_13 : decode cX6_endSum 13 = .ok (.aload_n 0, 1) := by decide +kernel
theorem dX6_endSum_14 : decode cX6_endSum 14 = .ok (.getfield 34, 3) := by decide +kernel
theorem dX6_endSum_17 : decode cX6_endSum 17 = .ok (.iload_n 1, 1) := by decide +kernel
theorem dX6_endSum_18 : decode cX6_endSum 18 = .ok (.invokevirtual 43, 3) := by decide +kernel
theorem dX6_endSum_21 : decode cX6_endSum 21 = .ok (.invokestatic 80, 3) := by decide +kernel
theorem dX6_endSum_24 : decode cX6_endSum 24 = .ok (.invokevirtual 52, 3) := by decide +kernel
theorem dX6_endSum_27 : decode cX6_endSum 27 = .ok (.aload_n 0, 1) := by decide +kernel
theorem dX6_endSum_28 : decode cX6_endSum 28 = .ok (.getfield 34, 3) := by decide +kernel
theorem dX6_endSum_31 : decode cX6_endSum 31 = .ok (.iload_n 1, 1) := by decide +kernel
theorem dX6_endSum_32 : decode cX6_endSum 32 = .ok (.iconst 0, 1) := by decide +kernel
theorem dX6_endSum_33 : decode cX6_endSum 33 = .ok (.invokevirtual 52, 3) := by decide +kernel
theorem dX6_endSum_36 : decode cX6_endSum 36 = .ok (.return_, 1) := by decide +kernel
set_option maxRecDepth 20000 in
theorem ggX7_init_X5_init : GoodIn wsX7_init wsX5_init := goodIn_r _ [11, 12, 2, 3, 13, 14, 15, 16, 17, 18, 19] (by decide +kernel) (by decide +kernel)
set_option maxRecDepth 20000 in
theorem gX7_init_X5_init : GoodIn wsX7_init (wsX5_init) := ggX7_init_X5_init
theorem dX7_init_0 : decode cX7_init 0 = .ok (.aload_n 0, 1) := by decide +kernel
theorem dX7_init_1 : decode cX7_init 1 = .ok (.invokespecial 1, 3) := by decide +kernel
theorem dX7_init_4 : decode cX7_init 4 = .ok (.aload_n 0, 1) := by decide +kernel
theorem dX7_init_5 : decode cX7_init 5 = .ok (.new 7, 3) := by decide +kernel
theorem dX7_init_8 : decode cX7_init 8 = .ok (.dup, 1) := by decide +kernel
theorem dX7_init_9 : decode cX7_init 9 = .ok (.bipush 8, 2) := by decide +kernel
theorem dX7_init_11 : decode cX7_init 11 = .ok (.invokespecial 11, 3) := by decide +kernel
theorem dX7_init_14 : decode cX7_init 14 = .ok (.putfield 14, 3) := by decide +kernel
theorem dX7_init_17 : decode cX7_init 17 = .ok (.aload_n 0, 1) := by decide +kernel
theorem dX7_init_18 : decode cX7_init 18 = .ok (.new 7, 3) := by decide +kernel
theorem dX7_init_21 : decode cX7_init 21 = .ok (.dup, 1) := by decide +kernel
theorem dX7_init_22 : decode cX7_init 22 = .ok (.bipush 8, 2) := by decide +kernel
theorem dX7_init_24 : decode cX7_init 24 = .ok (.invokespecial 11, 3) := by decide +kernel
theorem dX7_init_27 : decode cX7_init 27 = .ok (.putfield 18, 3) := by decide +kernel
theorem dX7_init_30 : decode cX7_init 30 = .ok (.return_, 1) := by decide +kernel
theorem dX8_init_0 : decode cX8_init 0 = .ok (.aload_n 0, 1) := by decide +kernel
theorem dX8_init_1 : decode cX8_init 1 = .ok (.invokespecial 3, 3) := by decide +kernel
theorem dX8_init_4 : decode cX8_init 4 = .ok (.return_, 1) := by decide +kernel
set_option maxRecDepth 20000 in
theorem ggX9_init_X1_init : GoodIn wsX9_init wsX1_init := goodIn_r _ [43, 44, 2, 3, 45, 37, 38, 46, 47, 48, 49, 50, 51, 52, 53, 54, 55, 56, 204, 131, 132] (by decide +kernel) (by decide +kernel)
set_option maxRecDepth 20000 in
theorem gX9_init_X1_init_n9 : GoodIn wsX9_init (wsX1_init) := ggX9_init_X1_init
set_option maxRecDepth 20000 in
theorem ggX9_init_X0_init : GoodIn wsX9_init wsX0_init := goodIn_r _ [58, 59, 2, 3, 60, 37, 38, 61, 62, 48, 49, 50, 51, 52, 53, 54, 55, 56, 204, 148, 149, 150, 151, 152, 153] (by decide +kernel) (by decide +kernel)
set_option maxRecDepth 20000 in
theorem gX9_init_X0_init_n18 : GoodIn wsX9_init (wsX0_init) := ggX9_init_X0_init
set_option maxRecDepth 20000 in
theorem ggX9_init_X6_init : GoodIn wsX9_init wsX6_init := goodIn_r _ [64, 65, 2, 3, 66, 37, 38, 67, 68, 69, 70, 71, 72, 73, 74, 75, 48, 49, 50, 51, 52, 53, 54, 55, 56, 204, 154, 155, 156, 157, 158, 159, 160, 161] (by decide +kernel) (by decide +kernel)
set_option maxRecDepth 20000 in
theorem gX9_init_X6_init_n25 : GoodIn wsX9_init (wsX6_init) := ggX9_init_X6_init
set_option maxRecDepth 20000 in
theorem ggX9_init_X3_init : GoodIn wsX9_init wsX3_init := goodIn_r _ [77, 78, 2, 3, 79, 37, 38, 80, 81, 82, 83, 84, 85, 86, 48, 49, 50, 51, 52, 53, 54, 55, 56, 204, 162, 163, 164, 165, 166, 167, 168] (by decide +kernel) (by decide +kernel)
set_option maxRecDepth 20000 in
theorem gX9_init_X3_init_n32 : GoodIn wsX9_init (wsX3_init) := ggX9_init_X3_init
set_option maxRecDepth 20000 in
theorem ggX9_init_X4_init : GoodIn wsX9_init wsX4_init := goodIn_r _ [88, 89, 2, 3, 90, 37, 38, 91, 92, 93, 94, 95, 96, 97, 98, 99, 100, 101, 102, 103, 48, 49, 50, 51, 52, 53, 54, 55, 56, 204, 169, 170, 171, 172, 173, 174, 175, 176, 177, 178, 179, 180, 181] (by decide +kernel) (by decide +kernel)
set_option maxRecDepth 20000 in
theorem gX9_init_X4_init_n39 : GoodIn wsX9_init (wsX4_init) := ggX9_init_X4_init
set_option maxRecDepth 20000 in
theorem ggX9_init_X7_init : GoodIn wsX9_init wsX7_init := goodIn_r _ [105, 106, 2, 3, 107, 37, 38, 108, 109, 110, 48, 49, 50, 51, 52, 53, 54, 55, 56, 204, 182, 183, 184] (by decide +kernel) (by decide +kernel)
set_option maxRecDepth 20000 in
theorem gX9_init_X7_init_n46 : GoodIn wsX9_init (wsX7_init) := ggX9_init_X7_init
set_option maxRecDepth 20000 in
theorem ggX9_init_X2_init : GoodIn wsX9_init wsX2_init := goodIn_r _ [112, 113, 2, 3, 114, 37, 38, 115, 116, 117, 118, 119, 120, 121, 122, 123, 124, 125, 126, 48, 49, 50, 51, 52, 53, 54, 55, 56, 204, 185, 186, 187, 188, 189, 190, 191, 192, 193, 194, 195, 196] (by decide +kernel) (by decide +kernel)
set_option maxRecDepth 20000 in
theorem gX9_init_X2_init_n53 : GoodIn wsX9_init (wsX2_init) := ggX9_init_X2_init
set_option maxRecDepth 20000 in
theorem ggX9_init_X8_init : GoodIn wsX9_init wsX8_init := goodIn_r _ [128, 129, 2, 3] (by decide +kernel) (by decide +kernel)
set_option maxRecDepth 20000 in
theorem gX9_init_X8_init_n60 : GoodIn wsX9_init (wsX8_init) := ggX9_init_X8_init
set_option maxRecDepth 20000 in
theorem ggX9_init_X5_init : GoodIn wsX9_init wsX5_init := goodIn_r _ [49, 50, 2, 3, 51, 52, 53, 54, 55, 56, 204] (by decide +kernel) (by decide +kernel)
set_option maxRecDepth 20000 in
theorem gX9_init_X5_init : GoodIn wsX9_init (wsX5_init) := ggX9_init_X5_init
theorem dX9_init_0 : decode cX9_init 0 = .ok (.aload_n 0, 1) := by decide +kernel
theorem dX9_init_1 : decode cX9_init 1 = .ok (.invokespecial 1, 3) := by decide +kernel
theorem dX9_init_4 : decode cX9_init 4 = .ok (.aload_n 0, 1) := by decide +kernel
theorem dX9_init_5 : decode cX9_init 5 = .ok (.new 7, 3) := by decide +kernel
theorem dX9_init_8 : decode cX9_init 8 = .ok (.dup, 1) := by decide +kernel
theorem dX9_init_9 : decode cX9_init 9 = .ok (.invokespecial 9, 3) := by decide +kernel
theorem dX9_init_12 : decode cX9_init 12 = .ok (.putfield 10, 3) := by decide +kernel
theorem dX9_init_15 : decode cX9_init 15 = .ok (.aload_n 0, 1) := by decide +kernel
theorem dX9_init_16 : decode cX9_init 16 = .ok (.new 16, 3) := by decide +kernel
theorem dX9_init_19 : decode cX9_init 19 = .ok (.dup, 1) := by decide +kernel
theorem dX9_init_20 : decode cX9_init 20 = .ok (.invokespecial 18, 3) := by decide +kernel
theorem dX9_init_23 : decode cX9_init 23 = .ok (.putfield 19, 3) := by decide +kernel
theorem dX9_init_26 : decode cX9_init 26 = .ok (.aload_n 0, 1) := by decide +kernel
theorem dX9_init_27 : decode cX9_init 27 = .ok (.new 23, 3) := by decide +kernel
theorem dX9_init_30 : decode cX9_init 30 = .ok (.dup, 1) := by decide +kernel
theorem dX9_init_31 : decode cX9_init 31 = .ok (.invokespecial 25, 3) := by decide +kernel
theorem dX9_init_34 : decode cX9_init 34 = .ok (.putfield 26, 3) := by decide +kernel
theorem dX9_init_37 : decode cX9_init 37 = .ok (.aload_n 0, 1) := by decide +kernel
theorem dX9_init_38 : decode cX9_init 38 = .ok (.new 30, 3) := by decide +kernel
theorem dX9_init_41 : decode cX9_init 41 = .ok (.dup, 1) := by decide +kernel
theorem dX9_init_42 : decode cX9_init 42 = .ok (.invokespecial 32, 3) := by decide +kernel
theorem dX9_init_45 : decode cX9_init 45 = .ok (.putfield 33, 3) := by decide +kernel
theorem dX9_init_48 : decode cX9_init 48 = .ok (.aload_n 0, 1) := by decide +kernel
theorem dX9_init_49 : decode cX9_init 49 = .ok (.new 37, 3) := by decide +kernel
theorem dX9_init_52 : decode cX9_init 52 = .ok (.dup, 1) := by decide +kernel
theorem dX9_init_53 : decode cX9_init 53 = .ok (.invokespecial 39, 3) := by decide +kernel
theorem dX9_init_56 : decode cX9_init 56 = .ok (.putfield 40, 3) := by decide +kernel
theorem dX9_init_59 : decode cX9_init 59 = .ok (.aload_n 0, 1) := by decide +kernel
theorem dX9_init_60 : decode cX9_init 60 = .ok (.new 44, 3) := by decide +kernel
theorem dX9_init_63 : decode cX9_init 63 = .ok (.dup, 1) := by decide +kernel
theorem dX9_init_64 : decode cX9_init 64 = .ok (.invokespecial 46, 3) := by decide +kernel
theorem dX9_init_67 : decode cX9_init 67 = .ok (.putfield 47, 3) := by decide +kernel
theorem dX9_init_70 : decode cX9_init 70 = .ok (.aload_n 0, 1) := by decide +kernel
theorem dX9_init_71 : decode cX9_init 71 = .ok (.new 51, 3) := by decide +kernel
theorem dX9_init_74 : decode cX9_init 74 = .ok (.dup, 1) := by decide +kernel
theorem dX9_init_75 : decode cX9_init 75 = .ok (.invokespecial 53, 3) := by decide +kernel
theorem dX9_init_78 : decode cX9_init 78 = .ok (.putfield 54, 3) := by decide +kernel
theorem dX9_init_81 : decode cX9_init 81 = .ok (.aload_n 0, 1) := by decide +kernel
theorem dX9_init_82 : decode cX9_init 82 = .ok (.new 58, 3) := by decide +kernel
theorem dX9_init_85 : decode cX9_init 85 = .ok (.dup, 1) := by decide +kernel
theorem dX9_init_86 : decode cX9_init 86 = .ok (.invokespecial 60, 3) := by decide +kernel
theorem dX9_init_89 : decode cX9_init 89 = .ok (.putfield 61, 3) := by decide +kernel
theorem dX9_init_92 : decode cX9_init 92 = .ok (.aload_n 0, 1) := by decide +kernel
theorem dX9_init_93 : decode cX9_init 93 = .ok (.new 65, 3) := by decide +kernel
theorem dX9_init_96 : decode cX9_init 96 = .ok (.dup, 1) := by decide +kernel
theorem dX9_init_97 : decode cX9_init 97 = .ok (.iconst 4, 1) := by decide +kernel
theorem dX9_init_98 : decode cX9_init 98 = .ok (.invokespecial 67, 3) := by decide +kernel
theorem dX9_init_101 : decode cX9_init 101 = .ok (.putfield 70, 3) := by decide +kernel
theorem dX9_init_104 : decode cX9_init 104 = .ok (.aload_n 0, 1) := by decide +kernel
theorem dX9_init_105 : decode cX9_init 105 = .ok (.new 65, 3) := by decide +kernel
theorem dX9_init_108 : decode cX9_init 108 = .ok (.dup, 1) := by decide +kernel
theorem dX9_init_109 : decode cX9_init 109 = .ok (.bipush 16, 2) := by decide +kernel
theorem dX9_init_111 : decode cX9_init 111 = .ok (.invokespecial 67, 3) := by decide +kernel
theorem dX9_init_114 : decode cX9_init 114 = .ok (.putfield 74, 3) := by decide +kernel
theorem dX9_init_117 : decode cX9_init 117 = .ok (.aload_n 0, 1) := by decide +kernel
theorem dX9_init_118 : decode cX9_init 118 = .ok (.iconst 1, 1) := by decide +kernel
theorem dX9_init_119 : decode cX9_init 119 = .ok (.putfield 77, 3) := by decide +kernel
theorem dX9_init_122 : decode cX9_init 122 = .ok (.return_, 1) := by decide +kernel
set_option maxRecDepth 20000 in
theorem ggX9_type_X1_append : GoodIn wsX9_type wsX1_append := goodIn_r _ [11, 12, 13, 14, 15, 16, 17, 18, 19, 35, 36, 37] (by decide +kernel) (by decide +kernel)
set_option maxRecDepth 20000 in
theorem gX9_type_X1_append : GoodIn wsX9_type (wsV RX9 113 RX1 yX1_append wsX1_append) := goodIn_app (goodIn_of _ (by decide +kernel)) ggX9_type_X1_append
theorem dX9_type_0 : decode cX9_type 0 = .ok (.iload_n 1, 1) := by decide +kernel
theorem dX9_type_1 : decode cX9_type 1 = .ok (.bipush 32, 2) := by decide +kernel
theorem dX9_type_3 : decode cX9_type 3 = .ok (.if_icmp .lt 9, 3) := by decide +kernel
theorem dX9_type_6 : decode cX9_type 6 = .ok (.iload_n 1, 1) := by decide +kernel
theorem dX9_type_7 : decode cX9_type 7 = .ok (.bipush 126, 2) := by decide +kernel
theorem dX9_type_9 : decode cX9_type 9 = .ok (.if_icmp .le 11, 3) := by decide +kernel
theorem dX9_type_12 : decode cX9_type 12 = .ok (.new 81, 3) := by decide +kernel
theorem dX9_type_15 : decode cX9_type 15 = .ok (.dup, 1) := by decide +kernel
theorem dX9_type_16 : decode cX9_type 16 = .ok (.invokespecial 83, 3) := by decide +kernel
theorem dX9_type_19 : decode cX9_type 19 = .ok (.athrow, 1) := by decide +kernel
theorem dX9_type_20 : decode cX9_type 20 = .ok (.aload_n 0, 1) := by decide +kernel
theorem dX9_type_21 : decode cX9_type 21 = .ok (.getfield 10, 3) := by decide +kernel
theorem dX9_type_24 : decode cX9_type 24 = .ok (.getfield 112, 3) := by decide +kernel
theorem dX9_type_27 : decode cX9_type 27 = .ok (.bipush 40, 2) := by decide +kernel
theorem dX9_type_29 : decode cX9_type 29 = .ok (.if_icmp .lt 11, 3) := by decide +kernel
theorem dX9_type_32 : decode cX9_type 32 = .ok (.new 87, 3) := by decide +kernel
theorem dX9_type_35 : decode cX9_type 35 = .ok (.dup, 1) := by decide +kernel
theorem dX9_type_36 : decode cX9_type 36 = .ok (.invokespecial 89, 3) := by decide +kernel
theorem dX9_type_39 : decode cX9_type 39 = .ok (.athrow, 1) := by decide +kernel
theorem dX9_type_40 : decode cX9_type 40 = .ok (.aload_n 0, 1) := by decide +kernel
theorem dX9_type_41 : decode cX9_type 41 = .ok (.getfield 10, 3) := by decide +kernel
theorem dX9_type_44 : decode cX9_type 44 = .ok (.iload_n 1, 1) := by decide +kernel
theorem dX9_type_45 : decode cX9_type 45 = .ok (.invokevirtual 113, 3) := by decide +kernel
theorem dX9_type_48 : decode cX9_type 48 = .ok (.aload_n 0, 1) := by decide +kernel
theorem dX9_type_49 : decode cX9_type 49 = .ok (.getfield 10, 3) := by decide +kernel
theorem dX9_type_52 : decode cX9_type 52 = .ok (.getfield 112, 3) := by decide +kernel
theorem dX9_type_55 : decode cX9_type 55 = .ok (.ireturn, 1) := by decide +kernel
set_option maxRecDepth 20000 in
theorem ggX9_scheme_X9_isQuestion : GoodIn wsX9_scheme wsX9_isQuestion := goodIn_r _ [12] (by decide +kernel) (by decide +kernel)
set_option maxRecDepth 20000 in
theorem gX9_scheme_X9_isQuestion : GoodIn wsX9_scheme (va_wsS RX9 116 yX9_isQuestion wsX9_isQuestion) := goodIn_app (goodIn_of _ (by decide +kernel)) ggX9_scheme_X9_isQuestion
set_option maxRecDepth 20000 in
theorem ggX9_scheme_X5_get : GoodIn wsX9_scheme wsX5_get := goodIn_r _ [17, 18, 168] (by decide +kernel) (by decide +kernel)
set_option maxRecDepth 20000 in
theorem gX9_scheme_X5_get : GoodIn wsX9_scheme (wsV RX9 104 RX5 yX5_get wsX5_get) := goodIn_app (goodIn_of _ (by decide +kernel)) ggX9_scheme_X5_get
set_option maxRecDepth 20000 in
theorem ggX9_scheme_X0_faultOf : GoodIn wsX9_scheme wsX0_faultOf := goodIn_r _ [23, 24, 25, 26, 27, 28, 29, 30, 22, 31, 32, 33, 34, 35, 14, 15, 16, 17, 18, 36, 37, 38, 39, 40, 41, 42, 43, 44, 45, 46, 47, 48, 49, 50, 51, 52, 53, 54, 55, 56, 57, 58, 59, 60, 61, 62, 63, 64, 65, 66, 67, 68, 169, 170, 171, 172, 173, 174, 175, 176, 168] (by decide +kernel) (by decide +kernel)
set_option maxRecDepth 20000 in
theorem gX9_scheme_X0_faultOf : GoodIn wsX9_scheme (wsV RX9 122 RX0 yX0_faultOf wsX0_faultOf) := goodIn_app (goodIn_of _ (by decide +kernel)) ggX9_scheme_X0_faultOf
set_option maxRecDepth 20000 in
theorem ggX9_scheme_X1_clear : GoodIn wsX9_scheme wsX1_clear := goodIn_r _ [73, 74, 169, 170] (by decide +kernel) (by decide +kernel)
set_option maxRecDepth 20000 in
theorem gX9_scheme_X1_clear : GoodIn wsX9_scheme (wsV RX9 126 RX1 yX1_clear wsX1_clear) := goodIn_app (goodIn_of _ (by decide +kernel)) ggX9_scheme_X1_clear
set_option maxRecDepth 20000 in
theorem ggX9_scheme_X6_enter : GoodIn wsX9_scheme wsX6_enter := goodIn_r _ [79, 80, 81, 82, 83, 84, 85, 86, 87, 88, 89, 14, 15, 16, 17, 18, 90, 46, 47, 48, 91, 92, 93, 94, 160, 161, 162, 163, 164, 165, 166, 167, 171, 172, 173, 174, 175, 176, 168] (by decide +kernel) (by decide +kernel)
set_option maxRecDepth 20000 in
theorem gX9_scheme_X6_enter : GoodIn wsX9_scheme (wsV RX9 129 RX6 yX6_enter wsX6_enter) := goodIn_app (goodIn_of _ (by decide +kernel)) ggX9_scheme_X6_enter
set_option maxRecDepth 20000 in
theorem ggX9_scheme_X9_weighReadings : GoodIn wsX9_scheme wsX9_weighReadings := goodIn_r _ [98, 99, 100, 101, 102, 5, 103, 13, 14, 15, 16, 17, 18, 104, 105, 106, 11, 107, 108, 109, 110, 111, 112, 113, 114, 115, 116, 78, 117, 85, 80, 89, 118, 119, 120, 121, 122, 123, 124, 125, 84, 82, 126, 127, 128, 87, 129, 130, 131, 132, 133, 134, 135, 136, 90, 46, 47, 48, 91, 92, 93, 94, 137, 138, 139, 140, 141, 142, 143, 144, 145, 146, 147, 148, 149, 150, 151, 152, 153, 154, 155, 156, 157, 158, 159, 177, 178, 179, 180, 181, 182, 183, 184, 185, 186, 187, 188, 168, 160, 161, 162, 163, 164, 165, 166, 167] (by decide +kernel) (by decide +kernel)
set_option maxRecDepth 20000 in
theorem gX9_scheme_X9_weighReadings : GoodIn wsX9_scheme (wsV RX9 132 RX9 yX9_weighReadings wsX9_weighReadings) := goodIn_app (goodIn_of _ (by decide +kernel)) ggX9_scheme_X9_weighReadings
theorem dX9_scheme_0 : decode cX9_scheme 0 = .ok (.iload_n 1, 1) := by decide +kernel
theorem dX9_scheme_1 : decode cX9_scheme 1 = .ok (.invokestatic 116, 3) := by decide +kernel
theorem dX9_scheme_4 : decode cX9_scheme 4 = .ok (.ifCond .ne 11, 3) := by decide +kernel
theorem dX9_scheme_7 : decode cX9_scheme 7 = .ok (.new 98, 3) := by decide +kernel
theorem dX9_scheme_10 : decode cX9_scheme 10 = .ok (.dup, 1) := by decide +kernel
theorem dX9_scheme_11 : decode cX9_scheme 11 = .ok (.invokespecial 100, 3) := by decide +kernel
theorem dX9_scheme_14 : decode cX9_scheme 14 = .ok (.athrow, 1) := by decide +kernel
theorem dX9_scheme_15 : decode cX9_scheme 15 = .ok (.aload_n 0, 1) := by decide +kernel
theorem dX9_scheme_16 : decode cX9_scheme 16 = .ok (.getfield 26, 3) := by decide +kernel
theorem dX9_scheme_19 : decode cX9_scheme 19 = .ok (.getfield 119, 3) := by decide +kernel
theorem dX9_scheme_22 : decode cX9_scheme 22 = .ok (.iload_n 1, 1) := by decide +kernel
theorem dX9_scheme_23 : decode cX9_scheme 23 = .ok (.invokevirtual 104, 3) := by decide +kernel
theorem dX9_scheme_26 : decode cX9_scheme 26 = .ok (.bipush 6, 2) := by decide +kernel
theorem dX9_scheme_28 : decode cX9_scheme 28 = .ok (.if_icmp .lt 11, 3) := by decide +kernel
theorem dX9_scheme_31 : decode cX9_scheme 31 = .ok (.new 87, 3) := by decide +kernel
theorem dX9_scheme_34 : decode cX9_scheme 34 = .ok (.dup, 1) := by decide +kernel
theorem dX9_scheme_35 : decode cX9_scheme 35 = .ok (.invokespecial 89, 3) := by decide +kernel
theorem dX9_scheme_38 : decode cX9_scheme 38 = .ok (.athrow, 1) := by decide +kernel
theorem dX9_scheme_39 : decode cX9_scheme 39 = .ok (.aload_n 0, 1) := by decide +kernel
theorem dX9_scheme_40 : decode cX9_scheme 40 = .ok (.getfield 19, 3) := by decide +kernel
theorem dX9_scheme_43 : decode cX9_scheme 43 = .ok (.aload_n 0, 1) := by decide +kernel
theorem dX9_scheme_44 : decode cX9_scheme 44 = .ok (.getfield 10, 3) := by decide +kernel
theorem dX9_scheme_47 : decode cX9_scheme 47 = .ok (.invokevirtual 122, 3) := by decide +kernel
theorem dX9_scheme_50 : decode cX9_scheme 50 = .ok (.istore_n 2, 1) := by decide +kernel
theorem dX9_scheme_51 : decode cX9_scheme 51 = .ok (.aload_n 0, 1) := by decide +kernel
theorem dX9_scheme_52 : decode cX9_scheme 52 = .ok (.getfield 10, 3) := by decide +kernel
theorem dX9_scheme_55 : decode cX9_scheme 55 = .ok (.invokevirtual 126, 3) := by decide +kernel
theorem dX9_scheme_58 : decode cX9_scheme 58 = .ok (.iload_n 2, 1) := by decide +kernel
theorem dX9_scheme_59 : decode cX9_scheme 59 = .ok (.iconst (-1), 1) := by decide +kernel
theorem dX9_scheme_60 : decode cX9_scheme 60 = .ok (.if_icmp .eq 7, 3) := by decide +kernel
theorem dX9_scheme_63 : decode cX9_scheme 63 = .ok (.iconst (-1), 1) := by decide +kernel
theorem dX9_scheme_64 : decode cX9_scheme 64 = .ok (.iload_n 2, 1) := by decide +kernel
theorem dX9_scheme_65 : decode cX9_scheme 65 = .ok (.isub, 1) := by decide +kernel
theorem dX9_scheme_66 : decode cX9_scheme 66 = .ok (.ireturn, 1) := by decide +kernel
theorem dX9_scheme_67 : decode cX9_scheme 67 = .ok (.aload_n 0, 1) := by decide +kernel
theorem dX9_scheme_68 : decode cX9_scheme 68 = .ok (.getfield 26, 3) := by decide +kernel
theorem dX9_scheme_71 : decode cX9_scheme 71 = .ok (.iload_n 1, 1) := by decide +kernel
theorem dX9_scheme_72 : decode cX9_scheme 72 = .ok (.aload_n 0, 1) := by decide +kernel
theorem dX9_scheme_73 : decode cX9_scheme 73 = .ok (.getfield 19, 3) := by decide +kernel
theorem dX9_scheme_76 : decode cX9_scheme 76 = .ok (.invokevirtual 129, 3) := by decide +kernel
theorem dX9_scheme_79 : decode cX9_scheme 79 = .ok (.istore_n 3, 1) := by decide +kernel
theorem dX9_scheme_80 : decode cX9_scheme 80 = .ok (.aload_n 0, 1) := by decide +kernel
theorem dX9_scheme_81 : decode cX9_scheme 81 = .ok (.iload_n 1, 1) := by decide +kernel
theorem dX9_scheme_82 : decode cX9_scheme 82 = .ok (.invokevirtual 132, 3) := by decide +kernel
theorem dX9_scheme_85 : decode cX9_scheme 85 = .ok (.iload_n 3, 1) := by decide +kernel
theorem dX9_scheme_86 : decode cX9_scheme 86 = .ok (.ireturn, 1) := by decide +kernel
set_option maxRecDepth 20000 in
theorem ggX9_versions_X9_isQuestion : GoodIn wsX9_versions wsX9_isQuestion := goodIn_r _ [8] (by decide +kernel) (by decide +kernel)
set_option maxRecDepth 20000 in
theorem gX9_versions_X9_isQuestion : GoodIn wsX9_versions (va_wsS RX9 116 yX9_isQuestion wsX9_isQuestion) := goodIn_app (goodIn_of _ (by decide +kernel)) ggX9_versions_X9_isQuestion
set_option maxRecDepth 20000 in
theorem ggX9_versions_X5_get : GoodIn wsX9_versions wsX5_get := goodIn_r _ [13, 14, 38] (by decide +kernel) (by decide +kernel)
set_option maxRecDepth 20000 in
theorem gX9_versions_X5_get : GoodIn wsX9_versions (wsV RX9 104 RX5 yX5_get wsX5_get) := goodIn_app (goodIn_of _ (by decide +kernel)) ggX9_versions_X5_get
theorem dX9_versions_0 : decode cX9_versions 0 = .ok (.iload_n 1, 1) := by decide +kernel
theorem dX9_versions_1 : decode cX9_versions 1 = .ok (.invokestatic 116, 3) := by decide +kernel
theorem dX9_versions_4 : decode cX9_versions 4 = .ok (.ifCond .ne 11, 3) := by decide +kernel
theorem dX9_versions_7 : decode cX9_versions 7 = .ok (.new 98, 3) := by decide +kernel
theorem dX9_versions_10 : decode cX9_versions 10 = .ok (.dup, 1) := by decide +kernel
theorem dX9_versions_11 : decode cX9_versions 11 = .ok (.invokespecial 100, 3) := by decide +kernel
theorem dX9_versions_14 : decode cX9_versions 14 = .ok (.athrow, 1) := by decide +kernel
theorem dX9_versions_15 : decode cX9_versions 15 = .ok (.aload_n 0, 1) := by decide +kernel
theorem dX9_versions_16 : decode cX9_versions 16 = .ok (.getfield 26, 3) := by decide +kernel
theorem dX9_versions_19 : decode cX9_versions 19 = .ok (.getfield 119, 3) := by decide +kernel
theorem dX9_versions_22 : decode cX9_versions 22 = .ok (.iload_n 1, 1) := by decide +kernel
theorem dX9_versions_23 : decode cX9_versions 23 = .ok (.invokevirtual 104, 3) := by decide +kernel
theorem dX9_versions_26 : decode cX9_versions 26 = .ok (.ireturn, 1) := by decide +kernel
set_option maxRecDepth 20000 in
theorem ggX9_markOf_X9_isQuestion : GoodIn wsX9_markOf wsX9_isQuestion := goodIn_r _ [9] (by decide +kernel) (by decide +kernel)
set_option maxRecDepth 20000 in
theorem gX9_markOf_X9_isQuestion : GoodIn wsX9_markOf (va_wsS RX9 116 yX9_isQuestion wsX9_isQuestion) := goodIn_app (goodIn_of _ (by decide +kernel)) ggX9_markOf_X9_isQuestion
set_option maxRecDepth 20000 in
theorem ggX9_markOf_X6_has : GoodIn wsX9_markOf wsX6_has := goodIn_r _ [14, 15, 16, 17, 18, 19, 20, 21, 73, 74, 75, 76, 77, 78, 79, 80, 81] (by decide +kernel) (by decide +kernel)
set_option maxRecDepth 20000 in
theorem gX9_markOf_X6_has : GoodIn wsX9_markOf (wsV RX9 216 RX6 yX6_has wsX6_has) := goodIn_app (goodIn_of _ (by decide +kernel)) ggX9_markOf_X6_has
set_option maxRecDepth 20000 in
theorem ggX9_markOf_X9_arePoints : GoodIn wsX9_markOf wsX9_arePoints := goodIn_r _ [24] (by decide +kernel) (by decide +kernel)
set_option maxRecDepth 20000 in
theorem gX9_markOf_X9_arePoints : GoodIn wsX9_markOf (va_wsS RX9 144 yX9_arePoints wsX9_arePoints) := goodIn_app (goodIn_of _ (by decide +kernel)) ggX9_markOf_X9_arePoints
set_option maxRecDepth 20000 in
theorem ggX9_markOf_X6_markBy : GoodIn wsX9_markOf wsX6_markBy := goodIn_r _ [28, 29, 30, 31, 32, 33, 34, 35, 36, 37, 38, 16, 17, 18, 19, 20, 21, 39, 40, 41, 13, 42, 43, 44, 45, 46, 47, 48, 49, 50, 51, 52, 53, 54, 55, 56, 57, 73, 74, 75, 76, 77, 78, 79, 80, 81] (by decide +kernel) (by decide +kernel)
set_option maxRecDepth 20000 in
theorem gX9_markOf_X6_markBy : GoodIn wsX9_markOf (wsV RX9 218 RX6 yX6_markBy wsX6_markBy) := goodIn_app (goodIn_of _ (by decide +kernel)) ggX9_markOf_X6_markBy
theorem dX9_markOf_0 : decode cX9_markOf 0 = .ok (.iload_n 1, 1) := by decide +kernel
theorem dX9_markOf_1 : decode cX9_markOf 1 = .ok (.invokestatic 116, 3) := by decide +kernel
theorem dX9_markOf_4 : decode cX9_markOf 4 = .ok (.ifCond .eq 15, 3) := by decide +kernel
theorem dX9_markOf_7 : decode cX9_markOf 7 = .ok (.aload_n 0, 1) := by decide +kernel
theorem dX9_markOf_8 : decode cX9_markOf 8 = .ok (.getfield 26, 3) := by decide +kernel
theorem dX9_markOf_11 : decode cX9_markOf 11 = .ok (.iload_n 1, 1) := by decide +kernel
theorem dX9_markOf_12 : decode cX9_markOf 12 = .ok (.iload_n 2, 1) := by decide +kernel
theorem dX9_markOf_13 : decode cX9_markOf 13 = .ok (.invokevirtual 216, 3) := by decide +kernel
theorem dX9_markOf_16 : decode cX9_markOf 16 = .ok (.ifCond .ne 11, 3) := by decide +kernel
theorem dX9_markOf_19 : decode cX9_markOf 19 = .ok (.new 98, 3) := by decide +kernel
theorem dX9_markOf_22 : decode cX9_markOf 22 = .ok (.dup, 1) := by decide +kernel
theorem dX9_markOf_23 : decode cX9_markOf 23 = .ok (.invokespecial 100, 3) := by decide +kernel
theorem dX9_markOf_26 : decode cX9_markOf 26 = .ok (.athrow, 1) := by decide +kernel
theorem dX9_markOf_27 : decode cX9_markOf 27 = .ok (.iload_n 3, 1) := by decide +kernel
theorem dX9_markOf_28 : decode cX9_markOf 28 = .ok (.invokestatic 144, 3) := by decide +kernel
theorem dX9_markOf_31 : decode cX9_markOf 31 = .ok (.ifCond .ne 11, 3) := by decide +kernel
theorem dX9_markOf_34 : decode cX9_markOf 34 = .ok (.new 81, 3) := by decide +kernel
theorem dX9_markOf_37 : decode cX9_markOf 37 = .ok (.dup, 1) := by decide +kernel
theorem dX9_markOf_38 : decode cX9_markOf 38 = .ok (.invokespecial 83, 3) := by decide +kernel
theorem dX9_markOf_41 : decode cX9_markOf 41 = .ok (.athrow, 1) := by decide +kernel
theorem dX9_markOf_42 : decode cX9_markOf 42 = .ok (.aload_n 0, 1) := by decide +kernel
theorem dX9_markOf_43 : decode cX9_markOf 43 = .ok (.getfield 26, 3) := by decide +kernel
theorem dX9_markOf_46 : decode cX9_markOf 46 = .ok (.iload_n 1, 1) := by decide +kernel
theorem dX9_markOf_47 : decode cX9_markOf 47 = .ok (.iload_n 2, 1) := by decide +kernel
theorem dX9_markOf_48 : decode cX9_markOf 48 = .ok (.iload_n 3, 1) := by decide +kernel
theorem dX9_markOf_49 : decode cX9_markOf 49 = .ok (.invokevirtual 218, 3) := by decide +kernel
theorem dX9_markOf_52 : decode cX9_markOf 52 = .ok (.ireturn, 1) := by decide +kernel
set_option maxRecDepth 20000 in
theorem ggX9_written_X9_isQuestion : GoodIn wsX9_written wsX9_isQuestion := goodIn_r _ [7] (by decide +kernel) (by decide +kernel)
set_option maxRecDepth 20000 in
theorem gX9_written_X9_isQuestion : GoodIn wsX9_written (va_wsS RX9 116 yX9_isQuestion wsX9_isQuestion) := goodIn_app (goodIn_of _ (by decide +kernel)) ggX9_written_X9_isQuestion
set_option maxRecDepth 20000 in
theorem ggX9_written_X6_has : GoodIn wsX9_written wsX6_has := goodIn_r _ [12, 13, 14, 15, 16, 17, 18, 19, 41, 42, 43, 44, 45, 46, 47, 48, 49] (by decide +kernel) (by decide +kernel)
set_option maxRecDepth 20000 in
theorem gX9_written_X6_has : GoodIn wsX9_written (wsV RX9 216 RX6 yX6_has wsX6_has) := goodIn_app (goodIn_of _ (by decide +kernel)) ggX9_written_X6_has
set_option maxRecDepth 20000 in
theorem ggX9_written_X6_signAt : GoodIn wsX9_written wsX6_signAt := goodIn_r _ [23, 24, 25, 14, 15, 16, 17, 18, 19, 41, 42, 43, 44, 45, 46, 47, 48, 49] (by decide +kernel) (by decide +kernel)
set_option maxRecDepth 20000 in
theorem gX9_written_X6_signAt : GoodIn wsX9_written (wsV RX9 222 RX6 yX6_signAt wsX6_signAt) := goodIn_app (goodIn_of _ (by decide +kernel)) ggX9_written_X6_signAt
theorem dX9_written_0 : decode cX9_written 0 = .ok (.iload_n 1, 1) := by decide +kernel
theorem dX9_written_1 : decode cX9_written 1 = .ok (.invokestatic 116, 3) := by decide +kernel
theorem dX9_written_4 : decode cX9_written 4 = .ok (.ifCond .eq 19, 3) := by decide +kernel
theorem dX9_written_7 : decode cX9_written 7 = .ok (.aload_n 0, 1) := by decide +kernel
theorem dX9_written_8 : decode cX9_written 8 = .ok (.getfield 26, 3) := by decide +kernel
theorem dX9_written_11 : decode cX9_written 11 = .ok (.iload_n 1, 1) := by decide +kernel
theorem dX9_written_12 : decode cX9_written 12 = .ok (.iload_n 2, 1) := by decide +kernel
theorem dX9_written_13 : decode cX9_written 13 = .ok (.invokevirtual 216, 3) := by decide +kernel
theorem dX9_written_16 : decode cX9_written 16 = .ok (.ifCond .eq 7, 3) := by decide +kernel
theorem dX9_written_19 : decode cX9_written 19 = .ok (.iload_n 3, 1) := by decide +kernel
theorem dX9_written_20 : decode cX9_written 20 = .ok (.ifCond .ge 11, 3) := by decide +kernel
theorem dX9_written_23 : decode cX9_written 23 = .ok (.new 98, 3) := by decide +kernel
theorem dX9_written_26 : decode cX9_written 26 = .ok (.dup, 1) := by decide +kernel
theorem dX9_written_27 : decode cX9_written 27 = .ok (.invokespecial 100, 3) := by decide +kernel
theorem dX9_written_30 : decode cX9_written 30 = .ok (.athrow, 1) := by decide +kernel
theorem dX9_written_31 : decode cX9_written 31 = .ok (.aload_n 0, 1) := by decide +kernel
theorem dX9_written_32 : decode cX9_written 32 = .ok (.getfield 26, 3) := by decide +kernel
theorem dX9_written_35 : decode cX9_written 35 = .ok (.iload_n 1, 1) := by decide +kernel
theorem dX9_written_36 : decode cX9_written 36 = .ok (.iload_n 2, 1) := by decide +kernel
theorem dX9_written_37 : decode cX9_written 37 = .ok (.iload_n 3, 1) := by decide +kernel
theorem dX9_written_38 : decode cX9_written 38 = .ok (.invokevirtual 222, 3) := by decide +kernel
theorem dX9_written_41 : decode cX9_written 41 = .ok (.i2c, 1) := by decide +kernel
theorem dX9_written_42 : decode cX9_written 42 = .ok (.ireturn, 1) := by decide +kernel
theorem dX9_isQuestion_0 : decode cX9_isQuestion 0 = .ok (.iload_n 0, 1) := by decide +kernel
theorem dX9_isQuestion_1 : decode cX9_isQuestion 1 = .ok (.ifCond .lt 12, 3) := by decide +kernel
theorem dX9_isQuestion_4 : decode cX9_isQuestion 4 = .ok (.iload_n 0, 1) := by decide +kernel
theorem dX9_isQuestion_5 : decode cX9_isQuestion 5 = .ok (.iconst 4, 1) := by decide +kernel
theorem dX9_isQuestion_6 : decode cX9_isQuestion 6 = .ok (.if_icmp .ge 7, 3) := by decide +kernel
theorem dX9_isQuestion_9 : decode cX9_isQuestion 9 = .ok (.iconst 1, 1) := by decide +kernel
theorem dX9_isQuestion_10 : decode cX9_isQuestion 10 = .ok (.goto 4, 3) := by decide +kernel
theorem dX9_isQuestion_13 : decode cX9_isQuestion 13 = .ok (.iconst 0, 1) := by decide +kernel
theorem dX9_isQuestion_14 : decode cX9_isQuestion 14 = .ok (.ireturn, 1) := by decide +kernel
theorem dX9_arePoints_0 : decode cX9_arePoints 0 = .ok (.iload_n 0, 1) := by decide +kernel
theorem dX9_arePoints_1 : decode cX9_arePoints 1 = .ok (.ifCond .lt 14, 3) := by decide +kernel
theorem dX9_arePoints_4 : decode cX9_arePoints 4 = .ok (.iload_n 0, 1) := by decide +kernel
theorem dX9_arePoints_5 : decode cX9_arePoints 5 = .ok (.sipush 255, 3) := by decide +kernel
theorem dX9_arePoints_8 : decode cX9_arePoints 8 = .ok (.if_icmp .gt 7, 3) := by decide +kernel
theorem dX9_arePoints_11 : decode cX9_arePoints 11 = .ok (.iconst 1, 1) := by decide +kernel
theorem dX9_arePoints_12 : decode cX9_arePoints 12 = .ok (.goto 4, 3) := by decide +kernel
theorem dX9_arePoints_15 : decode cX9_arePoints 15 = .ok (.iconst 0, 1) := by decide +kernel
theorem dX9_arePoints_16 : decode cX9_arePoints 16 = .ok (.ireturn, 1) := by decide +kernel
set_option maxRecDepth 20000 in
theorem ggX9_weighReadings_X5_get : GoodIn wsX9_weighReadings wsX5_get := goodIn_r _ [11, 12, 97] (by decide +kernel) (by decide +kernel)
set_option maxRecDepth 20000 in
theorem gX9_weighReadings_X5_get : GoodIn wsX9_weighReadings (wsV RX9 104 RX5 yX5_get wsX5_get) := goodIn_app (goodIn_of _ (by decide +kernel)) ggX9_weighReadings_X5_get
set_option maxRecDepth 20000 in
theorem ggX9_weighReadings_X9_isCounting : GoodIn wsX9_weighReadings wsX9_isCounting := goodIn_r _ [17, 1, 18, 5, 19, 20, 21, 22, 10, 23, 12, 24, 25, 26, 27, 28, 29, 30, 31, 8, 9, 11, 7, 70, 71, 72, 73, 74, 75, 76, 77, 78, 79, 80, 81, 82, 83, 84, 85, 86, 87, 88, 89, 90, 91, 92, 93, 94, 95, 96, 97, 98, 99, 100, 101, 102, 103, 104, 105] (by decide +kernel) (by decide +kernel)
set_option maxRecDepth 20000 in
theorem gX9_weighReadings_X9_isCounting : GoodIn wsX9_weighReadings (wsV RX9 378 RX9 yX9_isCounting wsX9_isCounting) := goodIn_app (goodIn_of _ (by decide +kernel)) ggX9_weighReadings_X9_isCounting
set_option maxRecDepth 20000 in
theorem ggX9_weighReadings_X6_markByLatest : GoodIn wsX9_weighReadings wsX6_markByLatest := goodIn_r _ [35, 30, 31, 8, 9, 10, 11, 12, 36, 37, 38, 27, 39, 40, 41, 42, 43, 44, 45, 46, 47, 48, 49, 50, 51, 52, 53, 54, 55, 56, 57, 58, 59, 60, 61, 62, 63, 64, 65, 66, 67, 68, 98, 99, 100, 101, 102, 103, 104, 105, 97] (by decide +kernel) (by decide +kernel)
set_option maxRecDepth 20000 in
theorem gX9_weighReadings_X6_markByLatest : GoodIn wsX9_weighReadings (wsV RX9 342 RX6 yX6_markByLatest wsX6_markByLatest) := goodIn_app (goodIn_of _ (by decide +kernel)) ggX9_weighReadings_X6_markByLatest
set_option maxRecDepth 20000 in
theorem ggX9_weighReadings_X5_set : GoodIn wsX9_weighReadings wsX5_set := goodIn_r _ [57, 12, 97] (by decide +kernel) (by decide +kernel)
set_option maxRecDepth 20000 in
theorem gX9_weighReadings_X5_set : GoodIn wsX9_weighReadings (wsV RX9 108 RX5 yX5_set wsX5_set) := goodIn_app (goodIn_of _ (by decide +kernel)) ggX9_weighReadings_X5_set
theorem dX9_weighReadings_0 : decode cX9_weighReadings 0 = .ok (.iconst 0, 1) := by decide +kernel
theorem dX9_weighReadings_1 : decode cX9_weighReadings 1 = .ok (.istore_n 2, 1) := by decide +kernel
theorem dX9_weighReadings_2 : decode cX9_weighReadings 2 = .ok (.iload_n 2, 1) := by decide +kernel
theorem dX9_weighReadings_3 : decode cX9_weighReadings 3 = .ok (.aload_n 0, 1) := by decide +kernel
theorem dX9_weighReadings_4 : decode cX9_weighReadings 4 = .ok (.getfield 54, 3) := by decide +kernel
theorem dX9_weighReadings_7 : decode cX9_weighReadings 7 = .ok (.getfield 164, 3) := by decide +kernel
theorem dX9_weighReadings_10 : decode cX9_weighReadings 10 = .ok (.if_icmp .ge 72, 3) := by decide +kernel
theorem dX9_weighReadings_13 : decode cX9_weighReadings 13 = .ok (.aload_n 0, 1) := by decide +kernel
theorem dX9_weighReadings_14 : decode cX9_weighReadings 14 = .ok (.getfield 54, 3) := by decide +kernel
theorem dX9_weighReadings_17 : decode cX9_weighReadings 17 = .ok (.getfield 375, 3) := by decide +kernel
theorem dX9_weighReadings_20 : decode cX9_weighReadings 20 = .ok (.iload_n 2, 1) := by decide +kernel
theorem dX9_weighReadings_21 : decode cX9_weighReadings 21 = .ok (.invokevirtual 104, 3) := by decide +kernel
theorem dX9_weighReadings_24 : decode cX9_weighReadings 24 = .ok (.iconst 4, 1) := by decide +kernel
theorem dX9_weighReadings_25 : decode cX9_weighReadings 25 = .ok (.irem, 1) := by decide +kernel
theorem dX9_weighReadings_26 : decode cX9_weighReadings 26 = .ok (.iload_n 1, 1) := by decide +kernel
theorem dX9_weighReadings_27 : decode cX9_weighReadings 27 = .ok (.if_icmp .eq 6, 3) := by decide +kernel
theorem dX9_weighReadings_30 : decode cX9_weighReadings 30 = .ok (.goto 46, 3) := by decide +kernel
theorem dX9_weighReadings_33 : decode cX9_weighReadings 33 = .ok (.aload_n 0, 1) := by decide +kernel
theorem dX9_weighReadings_34 : decode cX9_weighReadings 34 = .ok (.getfield 54, 3) := by decide +kernel
theorem dX9_weighReadings_37 : decode cX9_weighReadings 37 = .ok (.getfield 333, 3) := by decide +kernel
theorem dX9_weighReadings_40 : decode cX9_weighReadings 40 = .ok (.iload_n 2, 1) := by decide +kernel
theorem dX9_weighReadings_41 : decode cX9_weighReadings 41 = .ok (.aload_n 0, 1) := by decide +kernel
theorem dX9_weighReadings_42 : decode cX9_weighReadings 42 = .ok (.iload_n 2, 1) := by decide +kernel
theorem dX9_weighReadings_43 : decode cX9_weighReadings 43 = .ok (.iload_n 1, 1) := by decide +kernel
theorem dX9_weighReadings_44 : decode cX9_weighReadings 44 = .ok (.invokevirtual 378, 3) := by decide +kernel
theorem dX9_weighReadings_47 : decode cX9_weighReadings 47 = .ok (.ifCond .eq 25, 3) := by decide +kernel
theorem dX9_weighReadings_50 : decode cX9_weighReadings 50 = .ok (.aload_n 0, 1) := by decide +kernel
theorem dX9_weighReadings_51 : decode cX9_weighReadings 51 = .ok (.getfield 26, 3) := by decide +kernel
theorem dX9_weighReadings_54 : decode cX9_weighReadings 54 = .ok (.iload_n 1, 1) := by decide +kernel
theorem dX9_weighReadings_55 : decode cX9_weighReadings 55 = .ok (.aload_n 0, 1) := by decide +kernel
theorem dX9_weighReadings_56 : decode cX9_weighReadings 56 = .ok (.getfield 54, 3) := by decide +kernel
theorem dX9_weighReadings_59 : decode cX9_weighReadings 59 = .ok (.getfield 365, 3) := by decide +kernel
theorem dX9_weighReadings_62 : decode cX9_weighReadings 62 = .ok (.iload_n 2, 1) := by decide +kernel
theorem dX9_weighReadings_63 : decode cX9_weighReadings 63 = .ok (.invokevirtual 104, 3) := by decide +kernel
theorem dX9_weighReadings_66 : decode cX9_weighReadings 66 = .ok (.invokevirtual 342, 3) := by decide +kernel
theorem dX9_weighReadings_69 : decode cX9_weighReadings 69 = .ok (.goto 4, 3) := by decide +kernel
theorem dX9_weighReadings_72 : decode cX9_weighReadings 72 = .ok (.iconst (-1), 1) := by decide +kernel
theorem dX9_weighReadings_73 : decode cX9_weighReadings 73 = .ok (.invokevirtual 108, 3) := by decide +kernel
theorem dX9_weighReadings_76 : decode cX9_weighReadings 76 = .ok (.iinc 2 1, 3) := by decide +kernel
theorem dX9_weighReadings_79 : decode cX9_weighReadings 79 = .ok (.goto (-77), 3) := by decide +kernel
theorem dX9_weighReadings_82 : decode cX9_weighReadings 82 = .ok (.return_, 1) := by decide +kernel
set_option maxRecDepth 20000 in
theorem ggX9_isCounting_X5_is : GoodIn wsX9_isCounting wsX5_is := goodIn_r _ [9, 10, 50] (by decide +kernel) (by decide +kernel)
set_option maxRecDepth 20000 in
theorem gX9_isCounting_X5_is : GoodIn wsX9_isCounting (wsV RX9 135 RX5 yX5_is wsX5_is) := goodIn_app (goodIn_of _ (by decide +kernel)) ggX9_isCounting_X5_is
set_option maxRecDepth 20000 in
theorem ggX9_isCounting_X6_lettersOfLatest : GoodIn wsX9_isCounting wsX6_lettersOfLatest := goodIn_r _ [15, 16, 17, 18, 19, 20, 8, 21, 10, 51, 52, 53, 54, 55, 56, 57, 58, 50] (by decide +kernel) (by decide +kernel)
set_option maxRecDepth 20000 in
theorem gX9_isCounting_X6_lettersOfLatest : GoodIn wsX9_isCounting (wsV RX9 361 RX6 yX6_lettersOfLatest wsX6_lettersOfLatest) := goodIn_app (goodIn_of _ (by decide +kernel)) ggX9_isCounting_X6_lettersOfLatest
set_option maxRecDepth 20000 in
theorem ggX9_isCounting_X5_get : GoodIn wsX9_isCounting wsX5_get := goodIn_r _ [21, 10, 50] (by decide +kernel) (by decide +kernel)
set_option maxRecDepth 20000 in
theorem gX9_isCounting_X5_get : GoodIn wsX9_isCounting (wsV RX9 104 RX5 yX5_get wsX5_get) := goodIn_app (goodIn_of _ (by decide +kernel)) ggX9_isCounting_X5_get
theorem dX9_isCounting_0 : decode cX9_isCounting 0 = .ok (.aload_n 0, 1) := by decide +kernel
theorem dX9_isCounting_1 : decode cX9_isCounting 1 = .ok (.getfield 54, 3) := by decide +kernel
theorem dX9_isCounting_4 : decode cX9_isCounting 4 = .ok (.getfield 357, 3) := by decide +kernel
theorem dX9_isCounting_7 : decode cX9_isCounting 7 = .ok (.iload_n 1, 1) := by decide +kernel
theorem dX9_isCounting_8 : decode cX9_isCounting 8 = .ok (.invokevirtual 135, 3) := by decide +kernel
theorem dX9_isCounting_11 : decode cX9_isCounting 11 = .ok (.ifCond .ne 32, 3) := by decide +kernel
theorem dX9_isCounting_14 : decode cX9_isCounting 14 = .ok (.aload_n 0, 1) := by decide +kernel
theorem dX9_isCounting_15 : decode cX9_isCounting 15 = .ok (.getfield 26, 3) := by decide +kernel
theorem dX9_isCounting_18 : decode cX9_isCounting 18 = .ok (.iload_n 2, 1) := by decide +kernel
theorem dX9_isCounting_19 : decode cX9_isCounting 19 = .ok (.invokevirtual 361, 3) := by decide +kernel
theorem dX9_isCounting_22 : decode cX9_isCounting 22 = .ok (.aload_n 0, 1) := by decide +kernel
theorem dX9_isCounting_23 : decode cX9_isCounting 23 = .ok (.getfield 54, 3) := by decide +kernel
theorem dX9_isCounting_26 : decode cX9_isCounting 26 = .ok (.getfield 366, 3) := by decide +kernel
theorem dX9_isCounting_29 : decode cX9_isCounting 29 = .ok (.iload_n 1, 1) := by decide +kernel
theorem dX9_isCounting_30 : decode cX9_isCounting 30 = .ok (.invokevirtual 104, 3) := by decide +kernel
theorem dX9_isCounting_33 : decode cX9_isCounting 33 = .ok (.iconst (-1), 1) := by decide +kernel
theorem dX9_isCounting_34 : decode cX9_isCounting 34 = .ok (.ixor, 1) := by decide +kernel
theorem dX9_isCounting_35 : decode cX9_isCounting 35 = .ok (.iand, 1) := by decide +kernel
theorem dX9_isCounting_36 : decode cX9_isCounting 36 = .ok (.ifCond .ne 7, 3) := by decide +kernel
theorem dX9_isCounting_39 : decode cX9_isCounting 39 = .ok (.iconst 1, 1) := by decide +kernel
theorem dX9_isCounting_40 : decode cX9_isCounting 40 = .ok (.goto 4, 3) := by decide +kernel
theorem dX9_isCounting_43 : decode cX9_isCounting 43 = .ok (.iconst 0, 1) := by decide +kernel
theorem dX9_isCounting_44 : decode cX9_isCounting 44 = .ok (.ireturn, 1) := by decide +kernel
