set_option maxRecDepth 20000 in
theorem ggX0_init_X5_init : GoodIn wsX0_init wsX5_init := goodIn_r _ [10, 11, 2, 3, 12, 13, 14, 15, 16, 17, 18] (by decide +kernel) (by decide +kernel)
set_option maxRecDepth 20000 in
theorem gX0_init_X5_init : GoodIn wsX0_init (wsX5_init) := ggX0_init_X5_init
theorem dX0_init_0 : decode cX0_init 0 = .ok (.aload_n 0, 1) := by decide +kernel
theorem dX0_init_1 : decode cX0_init 1 = .ok (.invokespecial 5, 3) := by decide +kernel
theorem dX0_init_4 : decode cX0_init 4 = .ok (.aload_n 0, 1) := by decide +kernel
theorem dX0_init_5 : decode cX0_init 5 = .ok (.new 11, 3) := by decide +kernel
theorem dX0_init_8 : decode cX0_init 8 = .ok (.dup, 1) := by decide +kernel
theorem dX0_init_9 : decode cX0_init 9 = .ok (.bipush 80, 2) := by decide +kernel
theorem dX0_init_11 : decode cX0_init 11 = .ok (.invokespecial 15, 3) := by decide +kernel
theorem dX0_init_14 : decode cX0_init 14 = .ok (.putfield 18, 3) := by decide +kernel
theorem dX0_init_17 : decode cX0_init 17 = .ok (.return_, 1) := by decide +kernel
set_option maxRecDepth 20000 in
theorem ggX0_faultOf_X0_begin : GoodIn wsX0_faultOf wsX0_begin := goodIn_r _ [9, 10, 11, 12, 4, 3, 54, 55, 56, 57, 58, 59] (by decide +kernel) (by decide +kernel)
set_option maxRecDepth 20000 in
theorem gX0_faultOf_X0_begin : GoodIn wsX0_faultOf (wsV RX0 22 RX0 yX0_begin wsX0_begin) := goodIn_app (goodIn_of _ (by decide +kernel)) ggX0_faultOf_X0_begin
set_option maxRecDepth 20000 in
theorem ggX0_faultOf_X5_get : GoodIn wsX0_faultOf wsX5_get := goodIn_r _ [17, 18, 60] (by decide +kernel) (by decide +kernel)
set_option maxRecDepth 20000 in
theorem gX0_faultOf_X5_get : GoodIn wsX0_faultOf (wsV RX0 30 RX5 yX5_get wsX5_get) := goodIn_app (goodIn_of _ (by decide +kernel)) ggX0_faultOf_X5_get
set_option maxRecDepth 20000 in
theorem ggX0_faultOf_X0_takes : GoodIn wsX0_faultOf wsX0_takes := goodIn_r _ [22, 3, 12, 23, 24, 25, 8, 26, 27, 10, 28, 29, 30, 16, 31, 18, 32, 33, 34, 35, 36, 37, 38, 39, 11, 4, 40, 41, 42, 43, 44, 45, 46, 47, 54, 55, 56, 57, 58, 59, 60] (by decide +kernel) (by decide +kernel)
set_option maxRecDepth 20000 in
theorem gX0_faultOf_X0_takes : GoodIn wsX0_faultOf (wsV RX0 34 RX0 yX0_takes wsX0_takes) := goodIn_app (goodIn_of _ (by decide +kernel)) ggX0_faultOf_X0_takes
set_option maxRecDepth 20000 in
theorem ggX0_faultOf_X0_writeNumber : GoodIn wsX0_faultOf wsX0_writeNumber := goodIn_r _ [51, 12, 23, 24, 25, 8, 26, 27, 10, 28, 29, 30, 16, 31, 18, 54, 55, 56, 57, 58, 59, 60] (by decide +kernel) (by decide +kernel)
set_option maxRecDepth 20000 in
theorem gX0_faultOf_X0_writeNumber : GoodIn wsX0_faultOf (wsV RX0 44 RX0 yX0_writeNumber wsX0_writeNumber) := goodIn_app (goodIn_of _ (by decide +kernel)) ggX0_faultOf_X0_writeNumber
theorem dX0_faultOf_0 : decode cX0_faultOf 0 = .ok (.aload_n 0, 1) := by decide +kernel
theorem dX0_faultOf_1 : decode cX0_faultOf 1 = .ok (.invokevirtual 22, 3) := by decide +kernel
theorem dX0_faultOf_4 : decode cX0_faultOf 4 = .ok (.iconst 0, 1) := by decide +kernel
theorem dX0_faultOf_5 : decode cX0_faultOf 5 = .ok (.istore_n 2, 1) := by decide +kernel
theorem dX0_faultOf_6 : decode cX0_faultOf 6 = .ok (.iload_n 2, 1) := by decide +kernel
theorem dX0_faultOf_7 : decode cX0_faultOf 7 = .ok (.aload_n 1, 1) := by decide +kernel
theorem dX0_faultOf_8 : decode cX0_faultOf 8 = .ok (.getfield 25, 3) := by decide +kernel
theorem dX0_faultOf_11 : decode cX0_faultOf 11 = .ok (.if_icmp .ge 26, 3) := by decide +kernel
theorem dX0_faultOf_14 : decode cX0_faultOf 14 = .ok (.aload_n 0, 1) := by decide +kernel
theorem dX0_faultOf_15 : decode cX0_faultOf 15 = .ok (.aload_n 1, 1) := by decide +kernel
theorem dX0_faultOf_16 : decode cX0_faultOf 16 = .ok (.getfield 29, 3) := by decide +kernel
theorem dX0_faultOf_19 : decode cX0_faultOf 19 = .ok (.iload_n 2, 1) := by decide +kernel
theorem dX0_faultOf_20 : decode cX0_faultOf 20 = .ok (.invokevirtual 30, 3) := by decide +kernel
theorem dX0_faultOf_23 : decode cX0_faultOf 23 = .ok (.invokevirtual 34, 3) := by decide +kernel
theorem dX0_faultOf_26 : decode cX0_faultOf 26 = .ok (.ifCond .ne 5, 3) := by decide +kernel
theorem dX0_faultOf_29 : decode cX0_faultOf 29 = .ok (.iload_n 2, 1) := by decide +kernel
theorem dX0_faultOf_30 : decode cX0_faultOf 30 = .ok (.ireturn, 1) := by decide +kernel
theorem dX0_faultOf_31 : decode cX0_faultOf 31 = .ok (.iinc 2 1, 3) := by decide +kernel
theorem dX0_faultOf_34 : decode cX0_faultOf 34 = .ok (.goto (-28), 3) := by decide +kernel
theorem dX0_faultOf_37 : decode cX0_faultOf 37 = .ok (.aload_n 0, 1) := by decide +kernel
theorem dX0_faultOf_38 : decode cX0_faultOf 38 = .ok (.getfield 38, 3) := by decide +kernel
theorem dX0_faultOf_41 : decode cX0_faultOf 41 = .ok (.iconst 2, 1) := by decide +kernel
theorem dX0_faultOf_42 : decode cX0_faultOf 42 = .ok (.if_icmp .ne 10, 3) := by decide +kernel
theorem dX0_faultOf_45 : decode cX0_faultOf 45 = .ok (.aload_n 0, 1) := by decide +kernel
theorem dX0_faultOf_46 : decode cX0_faultOf 46 = .ok (.getfield 41, 3) := by decide +kernel
theorem dX0_faultOf_49 : decode cX0_faultOf 49 = .ok (.ifCond .eq 19, 3) := by decide +kernel
theorem dX0_faultOf_52 : decode cX0_faultOf 52 = .ok (.aload_n 0, 1) := by decide +kernel
theorem dX0_faultOf_53 : decode cX0_faultOf 53 = .ok (.getfield 38, 3) := by decide +kernel
theorem dX0_faultOf_56 : decode cX0_faultOf 56 = .ok (.iconst 4, 1) := by decide +kernel
theorem dX0_faultOf_57 : decode cX0_faultOf 57 = .ok (.if_icmp .eq 11, 3) := by decide +kernel
theorem dX0_faultOf_60 : decode cX0_faultOf 60 = .ok (.aload_n 0, 1) := by decide +kernel
theorem dX0_faultOf_61 : decode cX0_faultOf 61 = .ok (.getfield 38, 3) := by decide +kernel
theorem dX0_faultOf_64 : decode cX0_faultOf 64 = .ok (.iconst 5, 1) := by decide +kernel
theorem dX0_faultOf_65 : decode cX0_faultOf 65 = .ok (.if_icmp .ne 7, 3) := by decide +kernel
theorem dX0_faultOf_68 : decode cX0_faultOf 68 = .ok (.iconst 1, 1) := by decide +kernel
theorem dX0_faultOf_69 : decode cX0_faultOf 69 = .ok (.goto 4, 3) := by decide +kernel
theorem dX0_faultOf_72 : decode cX0_faultOf 72 = .ok (.iconst 0, 1) := by decide +kernel
theorem dX0_faultOf_73 : decode cX0_faultOf 73 = .ok (.istore_n 2, 1) := by decide +kernel
theorem dX0_faultOf_74 : decode cX0_faultOf 74 = .ok (.iload_n 2, 1) := by decide +kernel
theorem dX0_faultOf_75 : decode cX0_faultOf 75 = .ok (.ifCond .ne 8, 3) := by decide +kernel
theorem dX0_faultOf_78 : decode cX0_faultOf 78 = .ok (.aload_n 1, 1) := by decide +kernel
theorem dX0_faultOf_79 : decode cX0_faultOf 79 = .ok (.getfield 25, 3) := by decide +kernel
theorem dX0_faultOf_82 : decode cX0_faultOf 82 = .ok (.ireturn, 1) := by decide +kernel
theorem dX0_faultOf_83 : decode cX0_faultOf 83 = .ok (.aload_n 0, 1) := by decide +kernel
theorem dX0_faultOf_84 : decode cX0_faultOf 84 = .ok (.invokevirtual 44, 3) := by decide +kernel
theorem dX0_faultOf_87 : decode cX0_faultOf 87 = .ok (.iconst (-1), 1) := by decide +kernel
theorem dX0_faultOf_88 : decode cX0_faultOf 88 = .ok (.ireturn, 1) := by decide +kernel
theorem dX0_begin_0 : decode cX0_begin 0 = .ok (.aload_n 0, 1) := by decide +kernel
theorem dX0_begin_1 : decode cX0_begin 1 = .ok (.iconst 0, 1) := by decide +kernel
theorem dX0_begin_2 : decode cX0_begin 2 = .ok (.putfield 47, 3) := by decide +kernel
theorem dX0_begin_5 : decode cX0_begin 5 = .ok (.aload_n 0, 1) := by decide +kernel
theorem dX0_begin_6 : decode cX0_begin 6 = .ok (.iconst 0, 1) := by decide +kernel
theorem dX0_begin_7 : decode cX0_begin 7 = .ok (.putfield 48, 3) := by decide +kernel
theorem dX0_begin_10 : decode cX0_begin 10 = .ok (.aload_n 0, 1) := by decide +kernel
theorem dX0_begin_11 : decode cX0_begin 11 = .ok (.iconst (-1), 1) := by decide +kernel
theorem dX0_begin_12 : decode cX0_begin 12 = .ok (.putfield 51, 3) := by decide +kernel
theorem dX0_begin_15 : decode cX0_begin 15 = .ok (.aload_n 0, 1) := by decide +kernel
theorem dX0_begin_16 : decode cX0_begin 16 = .ok (.iconst 0, 1) := by decide +kernel
theorem dX0_begin_17 : decode cX0_begin 17 = .ok (.putfield 41, 3) := by decide +kernel
theorem dX0_begin_20 : decode cX0_begin 20 = .ok (.aload_n 0, 1) := by decide +kernel
theorem dX0_begin_21 : decode cX0_begin 21 = .ok (.iconst 0, 1) := by decide +kernel
theorem dX0_begin_22 : decode cX0_begin 22 = .ok (.putfield 38, 3) := by decide +kernel
theorem dX0_begin_25 : decode cX0_begin 25 = .ok (.return_, 1) := by decide +kernel
set_option maxRecDepth 20000 in
theorem ggX0_takes_X0_write : GoodIn wsX0_takes wsX0_write := goodIn_r _ [7, 8, 9, 10, 11, 12, 13, 14, 15, 34, 35, 36, 37, 38, 39, 40] (by decide +kernel) (by decide +kernel)
set_option maxRecDepth 20000 in
theorem gX0_takes_X0_write : GoodIn wsX0_takes (wsV RX0 54 RX0 yX0_write wsX0_write) := goodIn_app (goodIn_of _ (by decide +kernel)) ggX0_takes_X0_write
set_option maxRecDepth 20000 in
theorem ggX0_takes_X0_goesTo : GoodIn wsX0_takes wsX0_goesTo := goodIn_r _ [19, 1, 3, 4, 5, 6, 7, 8, 9, 10, 11, 12, 13, 14, 15, 34, 35, 36, 37, 38, 39, 40] (by decide +kernel) (by decide +kernel)
set_option maxRecDepth 20000 in
theorem gX0_takes_X0_goesTo : GoodIn wsX0_takes (wsV RX0 57 RX0 yX0_goesTo wsX0_goesTo) := goodIn_app (goodIn_of _ (by decide +kernel)) ggX0_takes_X0_goesTo
set_option maxRecDepth 20000 in
theorem ggX0_takes_X0_takesAtHead : GoodIn wsX0_takes wsX0_takesAtHead := goodIn_r _ [23, 24, 25, 16, 17, 18, 6, 19, 1, 3, 4, 5, 7, 8, 9, 10, 11, 12, 13, 14, 15, 34, 35, 36, 37, 38, 39, 40] (by decide +kernel) (by decide +kernel)
set_option maxRecDepth 20000 in
theorem gX0_takes_X0_takesAtHead : GoodIn wsX0_takes (wsV RX0 61 RX0 yX0_takesAtHead wsX0_takesAtHead) := goodIn_app (goodIn_of _ (by decide +kernel)) ggX0_takes_X0_takesAtHead
set_option maxRecDepth 20000 in
theorem ggX0_takes_X0_takesBehindPart : GoodIn wsX0_takes wsX0_takesBehindPart := goodIn_r _ [29, 25, 16, 17, 18, 6, 19, 1, 3, 4, 5, 7, 8, 9, 10, 11, 12, 13, 14, 15, 34, 35, 36, 37, 38, 39, 40] (by decide +kernel) (by decide +kernel)
set_option maxRecDepth 20000 in
theorem gX0_takes_X0_takesBehindPart : GoodIn wsX0_takes (wsV RX0 64 RX0 yX0_takesBehindPart wsX0_takesBehindPart) := goodIn_app (goodIn_of _ (by decide +kernel)) ggX0_takes_X0_takesBehindPart
set_option maxRecDepth 20000 in
theorem ggX0_takes_X0_takesInNumber : GoodIn wsX0_takes wsX0_takesInNumber := goodIn_r _ [33, 2, 1, 34, 35, 36, 37, 38, 39] (by decide +kernel) (by decide +kernel)
set_option maxRecDepth 20000 in
theorem gX0_takes_X0_takesInNumber : GoodIn wsX0_takes (wsV RX0 67 RX0 yX0_takesInNumber wsX0_takesInNumber) := goodIn_app (goodIn_of _ (by decide +kernel)) ggX0_takes_X0_takesInNumber
theorem dX0_takes_0 : decode cX0_takes 0 = .ok (.aload_n 0, 1) := by decide +kernel
theorem dX0_takes_1 : decode cX0_takes 1 = .ok (.getfield 38, 3) := by decide +kernel
theorem dX0_takes_4 : decode cX0_takes 4 = .ok (.ifCond .ne 26, 3) := by decide +kernel
theorem dX0_takes_7 : decode cX0_takes 7 = .ok (.iload_n 1, 1) := by decide +kernel
theorem dX0_takes_8 : decode cX0_takes 8 = .ok (.bipush 49, 2) := by decide +kernel
theorem dX0_takes_10 : decode cX0_takes 10 = .ok (.if_icmp .lt 9, 3) := by decide +kernel
theorem dX0_takes_13 : decode cX0_takes 13 = .ok (.iload_n 1, 1) := by decide +kernel
theorem dX0_takes_14 : decode cX0_takes 14 = .ok (.bipush 57, 2) := by decide +kernel
theorem dX0_takes_16 : decode cX0_takes 16 = .ok (.if_icmp .le 14, 3) := by decide +kernel
theorem dX0_takes_19 : decode cX0_takes 19 = .ok (.aload_n 0, 1) := by decide +kernel
theorem dX0_takes_20 : decode cX0_takes 20 = .ok (.bipush 49, 2) := by decide +kernel
theorem dX0_takes_22 : decode cX0_takes 22 = .ok (.invokevirtual 54, 3) := by decide +kernel
theorem dX0_takes_25 : decode cX0_takes 25 = .ok (.aload_n 0, 1) := by decide +kernel
theorem dX0_takes_26 : decode cX0_takes 26 = .ok (.iconst 1, 1) := by decide +kernel
theorem dX0_takes_27 : decode cX0_takes 27 = .ok (.putfield 38, 3) := by decide +kernel
theorem dX0_takes_30 : decode cX0_takes 30 = .ok (.aload_n 0, 1) := by decide +kernel
theorem dX0_takes_31 : decode cX0_takes 31 = .ok (.getfield 38, 3) := by decide +kernel
theorem dX0_takes_34 : decode cX0_takes 34 = .ok (.tableswitch 72 0 4 #[34, 41, 47, 53, 61], 34) := by decide +kernel
theorem dX0_takes_68 : decode cX0_takes 68 = .ok (.aload_n 0, 1) := by decide +kernel
theorem dX0_takes_69 : decode cX0_takes 69 = .ok (.iconst 1, 1) := by decide +kernel
theorem dX0_takes_70 : decode cX0_takes 70 = .ok (.iload_n 1, 1) := by decide +kernel
theorem dX0_takes_71 : decode cX0_takes 71 = .ok (.invokevirtual 57, 3) := by decide +kernel
theorem dX0_takes_74 : decode cX0_takes 74 = .ok (.ireturn, 1) := by decide +kernel
theorem dX0_takes_75 : decode cX0_takes 75 = .ok (.aload_n 0, 1) := by decide +kernel
theorem dX0_takes_76 : decode cX0_takes 76 = .ok (.iload_n 1, 1) := by decide +kernel
theorem dX0_takes_77 : decode cX0_takes 77 = .ok (.invokevirtual 61, 3) := by decide +kernel
theorem dX0_takes_80 : decode cX0_takes 80 = .ok (.ireturn, 1) := by decide +kernel
theorem dX0_takes_81 : decode cX0_takes 81 = .ok (.aload_n 0, 1) := by decide +kernel
theorem dX0_takes_82 : decode cX0_takes 82 = .ok (.iload_n 1, 1) := by decide +kernel
theorem dX0_takes_83 : decode cX0_takes 83 = .ok (.invokevirtual 64, 3) := by decide +kernel
theorem dX0_takes_86 : decode cX0_takes 86 = .ok (.ireturn, 1) := by decide +kernel
theorem dX0_takes_87 : decode cX0_takes 87 = .ok (.aload_n 0, 1) := by decide +kernel
theorem dX0_takes_88 : decode cX0_takes 88 = .ok (.iload_n 1, 1) := by decide +kernel
theorem dX0_takes_89 : decode cX0_takes 89 = .ok (.iconst 0, 1) := by decide +kernel
theorem dX0_takes_90 : decode cX0_takes 90 = .ok (.iconst 4, 1) := by decide +kernel
theorem dX0_takes_91 : decode cX0_takes 91 = .ok (.invokevirtual 67, 3) := by decide +kernel
theorem dX0_takes_94 : decode cX0_takes 94 = .ok (.ireturn, 1) := by decide +kernel
theorem dX0_takes_95 : decode cX0_takes 95 = .ok (.aload_n 0, 1) := by decide +kernel
theorem dX0_takes_96 : decode cX0_takes 96 = .ok (.iload_n 1, 1) := by decide +kernel
theorem dX0_takes_97 : decode cX0_takes 97 = .ok (.aload_n 0, 1) := by decide +kernel
theorem dX0_takes_98 : decode cX0_takes 98 = .ok (.getfield 51, 3) := by decide +kernel
theorem dX0_takes_101 : decode cX0_takes 101 = .ok (.iconst 5, 1) := by decide +kernel
theorem dX0_takes_102 : decode cX0_takes 102 = .ok (.invokevirtual 67, 3) := by decide +kernel
theorem dX0_takes_105 : decode cX0_takes 105 = .ok (.ireturn, 1) := by decide +kernel
theorem dX0_takes_106 : decode cX0_takes 106 = .ok (.iconst 0, 1) := by decide +kernel
theorem dX0_takes_107 : decode cX0_takes 107 = .ok (.ireturn, 1) := by decide +kernel
set_option maxRecDepth 20000 in
theorem ggX0_takesAtHead_X0_goesTo : GoodIn wsX0_takesAtHead wsX0_goesTo := goodIn_r _ [7, 8, 9, 10, 11, 6, 12, 13, 14, 15, 16, 17, 18, 19, 20, 21, 22, 23, 24, 25, 26, 27] (by decide +kernel) (by decide +kernel)
set_option maxRecDepth 20000 in
theorem gX0_takesAtHead_X0_goesTo : GoodIn wsX0_takesAtHead (wsV RX0 57 RX0 yX0_goesTo wsX0_goesTo) := goodIn_app (goodIn_of _ (by decide +kernel)) ggX0_takesAtHead_X0_goesTo
theorem dX0_takesAtHead_0 : decode cX0_takesAtHead 0 = .ok (.iload_n 1, 1) := by decide +kernel
theorem dX0_takesAtHead_1 : decode cX0_takesAtHead 1 = .ok (.bipush 97, 2) := by decide +kernel
theorem dX0_takesAtHead_3 : decode cX0_takesAtHead 3 = .ok (.if_icmp .lt 31, 3) := by decide +kernel
theorem dX0_takesAtHead_6 : decode cX0_takesAtHead 6 = .ok (.iload_n 1, 1) := by decide +kernel
theorem dX0_takesAtHead_7 : decode cX0_takesAtHead 7 = .ok (.bipush 104, 2) := by decide +kernel
theorem dX0_takesAtHead_9 : decode cX0_takesAtHead 9 = .ok (.if_icmp .gt 25, 3) := by decide +kernel
theorem dX0_takesAtHead_12 : decode cX0_takesAtHead 12 = .ok (.aload_n 0, 1) := by decide +kernel
theorem dX0_takesAtHead_13 : decode cX0_takesAtHead 13 = .ok (.dup, 1) := by decide +kernel
theorem dX0_takesAtHead_14 : decode cX0_takesAtHead 14 = .ok (.getfield 48, 3) := by decide +kernel
theorem dX0_takesAtHead_17 : decode cX0_takesAtHead 17 = .ok (.iconst 1, 1) := by decide +kernel
theorem dX0_takesAtHead_18 : decode cX0_takesAtHead 18 = .ok (.iload_n 1, 1) := by decide +kernel
theorem dX0_takesAtHead_19 : decode cX0_takesAtHead 19 = .ok (.bipush 97, 2) := by decide +kernel
theorem dX0_takesAtHead_21 : decode cX0_takesAtHead 21 = .ok (.isub, 1) := by decide +kernel
theorem dX0_takesAtHead_22 : decode cX0_takesAtHead 22 = .ok (.ishl, 1) := by decide +kernel
theorem dX0_takesAtHead_23 : decode cX0_takesAtHead 23 = .ok (.ior, 1) := by decide +kernel
theorem dX0_takesAtHead_24 : decode cX0_takesAtHead 24 = .ok (.putfield 48, 3) := by decide +kernel
theorem dX0_takesAtHead_27 : decode cX0_takesAtHead 27 = .ok (.aload_n 0, 1) := by decide +kernel
theorem dX0_takesAtHead_28 : decode cX0_takesAtHead 28 = .ok (.iconst 2, 1) := by decide +kernel
theorem dX0_takesAtHead_29 : decode cX0_takesAtHead 29 = .ok (.iload_n 1, 1) := by decide +kernel
theorem dX0_takesAtHead_30 : decode cX0_takesAtHead 30 = .ok (.invokevirtual 57, 3) := by decide +kernel
theorem dX0_takesAtHead_33 : decode cX0_takesAtHead 33 = .ok (.ireturn, 1) := by decide +kernel
theorem dX0_takesAtHead_34 : decode cX0_takesAtHead 34 = .ok (.iload_n 1, 1) := by decide +kernel
theorem dX0_takesAtHead_35 : decode cX0_takesAtHead 35 = .ok (.bipush 40, 2) := by decide +kernel
theorem dX0_takesAtHead_37 : decode cX0_takesAtHead 37 = .ok (.if_icmp .ne 11, 3) := by decide +kernel
theorem dX0_takesAtHead_40 : decode cX0_takesAtHead 40 = .ok (.aload_n 0, 1) := by decide +kernel
theorem dX0_takesAtHead_41 : decode cX0_takesAtHead 41 = .ok (.getfield 41, 3) := by decide +kernel
theorem dX0_takesAtHead_44 : decode cX0_takesAtHead 44 = .ok (.iconst 4, 1) := by decide +kernel
theorem dX0_takesAtHead_45 : decode cX0_takesAtHead 45 = .ok (.if_icmp .lt 5, 3) := by decide +kernel
theorem dX0_takesAtHead_48 : decode cX0_takesAtHead 48 = .ok (.iconst 0, 1) := by decide +kernel
theorem dX0_takesAtHead_49 : decode cX0_takesAtHead 49 = .ok (.ireturn, 1) := by decide +kernel
theorem dX0_takesAtHead_50 : decode cX0_takesAtHead 50 = .ok (.aload_n 0, 1) := by decide +kernel
theorem dX0_takesAtHead_51 : decode cX0_takesAtHead 51 = .ok (.dup, 1) := by decide +kernel
theorem dX0_takesAtHead_52 : decode cX0_takesAtHead 52 = .ok (.getfield 41, 3) := by decide +kernel
theorem dX0_takesAtHead_55 : decode cX0_takesAtHead 55 = .ok (.iconst 1, 1) := by decide +kernel
theorem dX0_takesAtHead_56 : decode cX0_takesAtHead 56 = .ok (.iadd, 1) := by decide +kernel
theorem dX0_takesAtHead_57 : decode cX0_takesAtHead 57 = .ok (.putfield 41, 3) := by decide +kernel
theorem dX0_takesAtHead_60 : decode cX0_takesAtHead 60 = .ok (.aload_n 0, 1) := by decide +kernel
theorem dX0_takesAtHead_61 : decode cX0_takesAtHead 61 = .ok (.iconst 0, 1) := by decide +kernel
theorem dX0_takesAtHead_62 : decode cX0_takesAtHead 62 = .ok (.iload_n 1, 1) := by decide +kernel
theorem dX0_takesAtHead_63 : decode cX0_takesAtHead 63 = .ok (.invokevirtual 57, 3) := by decide +kernel
theorem dX0_takesAtHead_66 : decode cX0_takesAtHead 66 = .ok (.ireturn, 1) := by decide +kernel
set_option maxRecDepth 20000 in
theorem ggX0_takesBehindPart_X0_goesTo : GoodIn wsX0_takesBehindPart wsX0_goesTo := goodIn_r _ [6, 7, 8, 9, 10, 5, 11, 12, 13, 14, 15, 16, 17, 18, 19, 20, 21, 22, 23, 24, 25, 26] (by decide +kernel) (by decide +kernel)
set_option maxRecDepth 20000 in
theorem gX0_takesBehindPart_X0_goesTo : GoodIn wsX0_takesBehindPart (wsV RX0 57 RX0 yX0_goesTo wsX0_goesTo) := goodIn_app (goodIn_of _ (by decide +kernel)) ggX0_takesBehindPart_X0_goesTo
theorem dX0_takesBehindPart_0 : decode cX0_takesBehindPart 0 = .ok (.iload_n 1, 1) := by decide +kernel
theorem dX0_takesBehindPart_1 : decode cX0_takesBehindPart 1 = .ok (.bipush 43, 2) := by decide +kernel
theorem dX0_takesBehindPart_3 : decode cX0_takesBehindPart 3 = .ok (.if_icmp .eq 16, 3) := by decide +kernel
theorem dX0_takesBehindPart_6 : decode cX0_takesBehindPart 6 = .ok (.iload_n 1, 1) := by decide +kernel
theorem dX0_takesBehindPart_7 : decode cX0_takesBehindPart 7 = .ok (.bipush 124, 2) := by decide +kernel
theorem dX0_takesBehindPart_9 : decode cX0_takesBehindPart 9 = .ok (.if_icmp .ne 17, 3) := by decide +kernel
theorem dX0_takesBehindPart_12 : decode cX0_takesBehindPart 12 = .ok (.aload_n 0, 1) := by decide +kernel
theorem dX0_takesBehindPart_13 : decode cX0_takesBehindPart 13 = .ok (.getfield 41, 3) := by decide +kernel
theorem dX0_takesBehindPart_16 : decode cX0_takesBehindPart 16 = .ok (.ifCond .le 10, 3) := by decide +kernel
theorem dX0_takesBehindPart_19 : decode cX0_takesBehindPart 19 = .ok (.aload_n 0, 1) := by decide +kernel
theorem dX0_takesBehindPart_20 : decode cX0_takesBehindPart 20 = .ok (.iconst 0, 1) := by decide +kernel
theorem dX0_takesBehindPart_21 : decode cX0_takesBehindPart 21 = .ok (.iload_n 1, 1) := by decide +kernel
theorem dX0_takesBehindPart_22 : decode cX0_takesBehindPart 22 = .ok (.invokevirtual 57, 3) := by decide +kernel
theorem dX0_takesBehindPart_25 : decode cX0_takesBehindPart 25 = .ok (.ireturn, 1) := by decide +kernel
theorem dX0_takesBehindPart_26 : decode cX0_takesBehindPart 26 = .ok (.iload_n 1, 1) := by decide +kernel
theorem dX0_takesBehindPart_27 : decode cX0_takesBehindPart 27 = .ok (.bipush 41, 2) := by decide +kernel
theorem dX0_takesBehindPart_29 : decode cX0_takesBehindPart 29 = .ok (.if_icmp .ne 27, 3) := by decide +kernel
theorem dX0_takesBehindPart_32 : decode cX0_takesBehindPart 32 = .ok (.aload_n 0, 1) := by decide +kernel
theorem dX0_takesBehindPart_33 : decode cX0_takesBehindPart 33 = .ok (.getfield 41, 3) := by decide +kernel
theorem dX0_takesBehindPart_36 : decode cX0_takesBehindPart 36 = .ok (.ifCond .le 20, 3) := by decide +kernel
theorem dX0_takesBehindPart_39 : decode cX0_takesBehindPart 39 = .ok (.aload_n 0, 1) := by decide +kernel
theorem dX0_takesBehindPart_40 : decode cX0_takesBehindPart 40 = .ok (.dup, 1) := by decide +kernel
theorem dX0_takesBehindPart_41 : decode cX0_takesBehindPart 41 = .ok (.getfield 41, 3) := by decide +kernel
theorem dX0_takesBehindPart_44 : decode cX0_takesBehindPart 44 = .ok (.iconst 1, 1) := by decide +kernel
theorem dX0_takesBehindPart_45 : decode cX0_takesBehindPart 45 = .ok (.isub, 1) := by decide +kernel
theorem dX0_takesBehindPart_46 : decode cX0_takesBehindPart 46 = .ok (.putfield 41, 3) := by decide +kernel
theorem dX0_takesBehindPart_49 : decode cX0_takesBehindPart 49 = .ok (.aload_n 0, 1) := by decide +kernel
theorem dX0_takesBehindPart_50 : decode cX0_takesBehindPart 50 = .ok (.iconst 2, 1) := by decide +kernel
theorem dX0_takesBehindPart_51 : decode cX0_takesBehindPart 51 = .ok (.iload_n 1, 1) := by decide +kernel
theorem dX0_takesBehindPart_52 : decode cX0_takesBehindPart 52 = .ok (.invokevirtual 57, 3) := by decide +kernel
theorem dX0_takesBehindPart_55 : decode cX0_takesBehindPart 55 = .ok (.ireturn, 1) := by decide +kernel
theorem dX0_takesBehindPart_56 : decode cX0_takesBehindPart 56 = .ok (.iload_n 1, 1) := by decide +kernel
theorem dX0_takesBehindPart_57 : decode cX0_takesBehindPart 57 = .ok (.bipush 60, 2) := by decide +kernel
theorem dX0_takesBehindPart_59 : decode cX0_takesBehindPart 59 = .ok (.if_icmp .ne 10, 3) := by decide +kernel
theorem dX0_takesBehindPart_62 : decode cX0_takesBehindPart 62 = .ok (.aload_n 0, 1) := by decide +kernel
theorem dX0_takesBehindPart_63 : decode cX0_takesBehindPart 63 = .ok (.getfield 41, 3) := by decide +kernel
theorem dX0_takesBehindPart_66 : decode cX0_takesBehindPart 66 = .ok (.ifCond .le 5, 3) := by decide +kernel
theorem dX0_takesBehindPart_69 : decode cX0_takesBehindPart 69 = .ok (.iconst 0, 1) := by decide +kernel
theorem dX0_takesBehindPart_70 : decode cX0_takesBehindPart 70 = .ok (.ireturn, 1) := by decide +kernel
theorem dX0_takesBehindPart_71 : decode cX0_takesBehindPart 71 = .ok (.aload_n 0, 1) := by decide +kernel
theorem dX0_takesBehindPart_72 : decode cX0_takesBehindPart 72 = .ok (.iconst 3, 1) := by decide +kernel
theorem dX0_takesBehindPart_73 : decode cX0_takesBehindPart 73 = .ok (.iload_n 1, 1) := by decide +kernel
theorem dX0_takesBehindPart_74 : decode cX0_takesBehindPart 74 = .ok (.invokevirtual 57, 3) := by decide +kernel
theorem dX0_takesBehindPart_77 : decode cX0_takesBehindPart 77 = .ok (.ireturn, 1) := by decide +kernel
theorem dX0_takesInNumber_0 : decode cX0_takesInNumber 0 = .ok (.iload_n 1, 1) := by decide +kernel
theorem dX0_takesInNumber_1 : decode cX0_takesInNumber 1 = .ok (.bipush 48, 2) := by decide +kernel
theorem dX0_takesInNumber_3 : decode cX0_takesInNumber 3 = .ok (.if_icmp .lt 9, 3) := by decide +kernel
theorem dX0_takesInNumber_6 : decode cX0_takesInNumber 6 = .ok (.iload_n 1, 1) := by decide +kernel
theorem dX0_takesInNumber_7 : decode cX0_takesInNumber 7 = .ok (.bipush 57, 2) := by decide +kernel
theorem dX0_takesInNumber_9 : decode cX0_takesInNumber 9 = .ok (.if_icmp .le 5, 3) := by decide +kernel
theorem dX0_takesInNumber_12 : decode cX0_takesInNumber 12 = .ok (.iconst 0, 1) := by decide +kernel
theorem dX0_takesInNumber_13 : decode cX0_takesInNumber 13 = .ok (.ireturn, 1) := by decide +kernel
theorem dX0_takesInNumber_14 : decode cX0_takesInNumber 14 = .ok (.aload_n 0, 1) := by decide +kernel
theorem dX0_takesInNumber_15 : decode cX0_takesInNumber 15 = .ok (.bipush 10, 2) := by decide +kernel
theorem dX0_takesInNumber_17 : decode cX0_takesInNumber 17 = .ok (.iload_n 2, 1) := by decide +kernel
theorem dX0_takesInNumber_18 : decode cX0_takesInNumber 18 = .ok (.imul, 1) := by decide +kernel
theorem dX0_takesInNumber_19 : decode cX0_takesInNumber 19 = .ok (.iload_n 1, 1) := by decide +kernel
theorem dX0_takesInNumber_20 : decode cX0_takesInNumber 20 = .ok (.iadd, 1) := by decide +kernel
theorem dX0_takesInNumber_21 : decode cX0_takesInNumber 21 = .ok (.bipush 48, 2) := by decide +kernel
theorem dX0_takesInNumber_23 : decode cX0_takesInNumber 23 = .ok (.isub, 1) := by decide +kernel
theorem dX0_takesInNumber_24 : decode cX0_takesInNumber 24 = .ok (.putfield 51, 3) := by decide +kernel
theorem dX0_takesInNumber_27 : decode cX0_takesInNumber 27 = .ok (.aload_n 0, 1) := by decide +kernel
theorem dX0_takesInNumber_28 : decode cX0_takesInNumber 28 = .ok (.iload_n 3, 1) := by decide +kernel
theorem dX0_takesInNumber_29 : decode cX0_takesInNumber 29 = .ok (.putfield 38, 3) := by decide +kernel
theorem dX0_takesInNumber_32 : decode cX0_takesInNumber 32 = .ok (.iconst 1, 1) := by decide +kernel
theorem dX0_takesInNumber_33 : decode cX0_takesInNumber 33 = .ok (.ireturn, 1) := by decide +kernel
set_option maxRecDepth 20000 in
theorem ggX0_goesTo_X0_write : GoodIn wsX0_goesTo wsX0_write := goodIn_r _ [6, 7, 8, 9, 10, 11, 12, 13, 14, 15, 16, 17, 18, 19, 20, 21] (by decide +kernel) (by decide +kernel)
set_option maxRecDepth 20000 in
theorem gX0_goesTo_X0_write : GoodIn wsX0_goesTo (wsV RX0 54 RX0 yX0_write wsX0_write) := goodIn_app (goodIn_of _ (by decide +kernel)) ggX0_goesTo_X0_write
theorem dX0_goesTo_0 : decode cX0_goesTo 0 = .ok (.aload_n 0, 1) := by decide +kernel
theorem dX0_goesTo_1 : decode cX0_goesTo 1 = .ok (.iload_n 2, 1) := by decide +kernel
theorem dX0_goesTo_2 : decode cX0_goesTo 2 = .ok (.invokevirtual 54, 3) := by decide +kernel
theorem dX0_goesTo_5 : decode cX0_goesTo 5 = .ok (.aload_n 0, 1) := by decide +kernel
theorem dX0_goesTo_6 : decode cX0_goesTo 6 = .ok (.iload_n 1, 1) := by decide +kernel
theorem dX0_goesTo_7 : decode cX0_goesTo 7 = .ok (.putfield 38, 3) := by decide +kernel
theorem dX0_goesTo_10 : decode cX0_goesTo 10 = .ok (.iconst 1, 1) := by decide +kernel
theorem dX0_goesTo_11 : decode cX0_goesTo 11 = .ok (.ireturn, 1) := by decide +kernel
set_option maxRecDepth 20000 in
theorem ggX0_writeNumber_X0_write : GoodIn wsX0_writeNumber wsX0_write := goodIn_r _ [6, 7, 8, 9, 10, 11, 12, 13, 14, 15, 16, 17, 18, 19, 20, 21] (by decide +kernel) (by decide +kernel)
set_option maxRecDepth 20000 in
theorem gX0_writeNumber_X0_write : GoodIn wsX0_writeNumber (wsV RX0 54 RX0 yX0_write wsX0_write) := goodIn_app (goodIn_of _ (by decide +kernel)) ggX0_writeNumber_X0_write
theorem dX0_writeNumber_0 : decode cX0_writeNumber 0 = .ok (.aload_n 0, 1) := by decide +kernel
theorem dX0_writeNumber_1 : decode cX0_writeNumber 1 = .ok (.getfield 51, 3) := by decide +kernel
theorem dX0_writeNumber_4 : decode cX0_writeNumber 4 = .ok (.iconst (-1), 1) := by decide +kernel
theorem dX0_writeNumber_5 : decode cX0_writeNumber 5 = .ok (.if_icmp .ne 4, 3) := by decide +kernel
theorem dX0_writeNumber_8 : decode cX0_writeNumber 8 = .ok (.return_, 1) := by decide +kernel
theorem dX0_writeNumber_9 : decode cX0_writeNumber 9 = .ok (.aload_n 0, 1) := by decide +kernel
theorem dX0_writeNumber_10 : decode cX0_writeNumber 10 = .ok (.getfield 51, 3) := by decide +kernel
theorem dX0_writeNumber_13 : decode cX0_writeNumber 13 = .ok (.bipush 9, 2) := by decide +kernel
theorem dX0_writeNumber_15 : decode cX0_writeNumber 15 = .ok (.if_icmp .le 17, 3) := by decide +kernel
theorem dX0_writeNumber_18 : decode cX0_writeNumber 18 = .ok (.aload_n 0, 1) := by decide +kernel
theorem dX0_writeNumber_19 : decode cX0_writeNumber 19 = .ok (.bipush 48, 2) := by decide +kernel
theorem dX0_writeNumber_21 : decode cX0_writeNumber 21 = .ok (.aload_n 0, 1) := by decide +kernel
theorem dX0_writeNumber_22 : decode cX0_writeNumber 22 = .ok (.getfield 51, 3) := by decide +kernel
theorem dX0_writeNumber_25 : decode cX0_writeNumber 25 = .ok (.bipush 10, 2) := by decide +kernel
theorem dX0_writeNumber_27 : decode cX0_writeNumber 27 = .ok (.idiv, 1) := by decide +kernel
theorem dX0_writeNumber_28 : decode cX0_writeNumber 28 = .ok (.iadd, 1) := by decide +kernel
theorem dX0_writeNumber_29 : decode cX0_writeNumber 29 = .ok (.invokevirtual 54, 3) := by decide +kernel
theorem dX0_writeNumber_32 : decode cX0_writeNumber 32 = .ok (.aload_n 0, 1) := by decide +kernel
theorem dX0_writeNumber_33 : decode cX0_writeNumber 33 = .ok (.bipush 48, 2) := by decide +kernel
theorem dX0_writeNumber_35 : decode cX0_writeNumber 35 = .ok (.aload_n 0, 1) := by decide +kernel
theorem dX0_writeNumber_36 : decode cX0_writeNumber 36 = .ok (.getfield 51, 3) := by decide +kernel
theorem dX0_writeNumber_39 : decode cX0_writeNumber 39 = .ok (.bipush 10, 2) := by decide +kernel
theorem dX0_writeNumber_41 : decode cX0_writeNumber 41 = .ok (.irem, 1) := by decide +kernel
theorem dX0_writeNumber_42 : decode cX0_writeNumber 42 = .ok (.iadd, 1) := by decide +kernel
theorem dX0_writeNumber_43 : decode cX0_writeNumber 43 = .ok (.invokevirtual 54, 3) := by decide +kernel
theorem dX0_writeNumber_46 : decode cX0_writeNumber 46 = .ok (.return_, 1) := by decide +kernel
set_option maxRecDepth 20000 in
theorem ggX0_write_X5_set : GoodIn wsX0_write wsX5_set := goodIn_r _ [7, 8, 15] (by decide +kernel) (by decide +kernel)
set_option maxRecDepth 20000 in
theorem gX0_write_X5_set : GoodIn wsX0_write (wsV RX0 71 RX5 yX5_set wsX5_set) := goodIn_app (goodIn_of _ (by decide +kernel)) ggX0_write_X5_set
theorem dX0_write_0 : decode cX0_write 0 = .ok (.aload_n 0, 1) := by decide +kernel
theorem dX0_write_1 : decode cX0_write 1 = .ok (.getfield 18, 3) := by decide +kernel
theorem dX0_write_4 : decode cX0_write 4 = .ok (.aload_n 0, 1) := by decide +kernel
theorem dX0_write_5 : decode cX0_write 5 = .ok (.getfield 47, 3) := by decide +kernel
theorem dX0_write_8 : decode cX0_write 8 = .ok (.iload_n 1, 1) := by decide +kernel
theorem dX0_write_9 : decode cX0_write 9 = .ok (.invokevirtual 71, 3) := by decide +kernel
theorem dX0_write_12 : decode cX0_write 12 = .ok (.aload_n 0, 1) := by decide +kernel
theorem dX0_write_13 : decode cX0_write 13 = .ok (.dup, 1) := by decide +kernel
theorem dX0_write_14 : decode cX0_write 14 = .ok (.getfield 47, 3) := by decide +kernel
theorem dX0_write_17 : decode cX0_write 17 = .ok (.iconst 1, 1) := by decide +kernel
theorem dX0_write_18 : decode cX0_write 18 = .ok (.iadd, 1) := by decide +kernel
theorem dX0_write_19 : decode cX0_write 19 = .ok (.putfield 47, 3) := by decide +kernel
theorem dX0_write_22 : decode cX0_write 22 = .ok (.return_, 1) := by decide +kernel
set_option maxRecDepth 20000 in
theorem ggX1_init_X5_init : GoodIn wsX1_init wsX5_init := goodIn_r _ [10, 11, 2, 3, 12, 13, 14, 15, 16, 17, 18] (by decide +kernel) (by decide +kernel)
set_option maxRecDepth 20000 in
theorem gX1_init_X5_init : GoodIn wsX1_init (wsX5_init) := ggX1_init_X5_init
theorem dX1_init_0 : decode cX1_init 0 = .ok (.aload_n 0, 1) := by decide +kernel
theorem dX1_init_1 : decode cX1_init 1 = .ok (.invokespecial 1, 3) := by decide +kernel
theorem dX1_init_4 : decode cX1_init 4 = .ok (.aload_n 0, 1) := by decide +kernel
theorem dX1_init_5 : decode cX1_init 5 = .ok (.new 7, 3) := by decide +kernel
theorem dX1_init_8 : decode cX1_init 8 = .ok (.dup, 1) := by decide +kernel
theorem dX1_init_9 : decode cX1_init 9 = .ok (.bipush 40, 2) := by decide +kernel
theorem dX1_init_11 : decode cX1_init 11 = .ok (.invokespecial 11, 3) := by decide +kernel
theorem dX1_init_14 : decode cX1_init 14 = .ok (.putfield 14, 3) := by decide +kernel
theorem dX1_init_17 : decode cX1_init 17 = .ok (.return_, 1) := by decide +kernel
set_option maxRecDepth 20000 in
theorem ggX1_append_X5_set : GoodIn wsX1_append wsX5_set := goodIn_r _ [7, 8, 11] (by decide +kernel) (by decide +kernel)
set_option maxRecDepth 20000 in
theorem gX1_append_X5_set : GoodIn wsX1_append (wsV RX1 22 RX5 yX5_set wsX5_set) := goodIn_app (goodIn_of _ (by decide +kernel)) ggX1_append_X5_set
theorem dX1_append_0 : decode cX1_append 0 = .ok (.aload_n 0, 1) := by decide +kernel
theorem dX1_append_1 : decode cX1_append 1 = .ok (.getfield 18, 3) := by decide +kernel
theorem dX1_append_4 : decode cX1_append 4 = .ok (.bipush 40, 2) := by decide +kernel
theorem dX1_append_6 : decode cX1_append 6 = .ok (.if_icmp .lt 4, 3) := by decide +kernel
theorem dX1_append_9 : decode cX1_append 9 = .ok (.return_, 1) := by decide +kernel
theorem dX1_append_10 : decode cX1_append 10 = .ok (.aload_n 0, 1) := by decide +kernel
theorem dX1_append_11 : decode cX1_append 11 = .ok (.getfield 14, 3) := by decide +kernel
theorem dX1_append_14 : decode cX1_append 14 = .ok (.aload_n 0, 1) := by decide +kernel
theorem dX1_append_15 : decode cX1_append 15 = .ok (.getfield 18, 3) := by decide +kernel
theorem dX1_append_18 : decode cX1_append 18 = .ok (.iload_n 1, 1) := by decide +kernel
theorem dX1_append_19 : decode cX1_append 19 = .ok (.invokevirtual 22, 3) := by decide +kernel
theorem dX1_append_22 : decode cX1_append 22 = .ok (.aload_n 0, 1) := by decide +kernel
theorem dX1_append_23 : decode cX1_append 23 = .ok (.dup, 1) := by decide +kernel
theorem dX1_append_24 : decode cX1_append 24 = .ok (.getfield 18, 3) := by decide +kernel
theorem dX1_append_27 : decode cX1_append 27 = .ok (.iconst 1, 1) := by decide +kernel
theorem dX1_append_28 : decode cX1_append 28 = .ok (.iadd, 1) := by decide +kernel
theorem dX1_append_29 : decode cX1_append 29 = .ok (.putfield 18, 3) := by decide +kernel
theorem dX1_append_32 : decode cX1_append 32 = .ok (.return_, 1) := by decide +kernel
theorem dX1_clear_0 : decode cX1_clear 0 = .ok (.aload_n 0, 1) := by decide +kernel
theorem dX1_clear_1 : decode cX1_clear 1 = .ok (.iconst 0, 1) := by decide +kernel
theorem dX1_clear_2 : decode cX1_clear 2 = .ok (.putfield 18, 3) := by decide +kernel
theorem dX1_clear_5 : decode cX1_clear 5 = .ok (.return_, 1) := by decide +kernel
set_option maxRecDepth 20000 in
theorem ggX2_init_X5_init : GoodIn wsX2_init wsX5_init := goodIn_r _ [20, 21, 2, 3, 22, 23, 24, 25, 26, 27, 28] (by decide +kernel) (by decide +kernel)
set_option maxRecDepth 20000 in
theorem gX2_init_X5_init : GoodIn wsX2_init (wsX5_init) := ggX2_init_X5_init
theorem dX2_init_0 : decode cX2_init 0 = .ok (.aload_n 0, 1) := by decide +kernel
theorem dX2_init_1 : decode cX2_init 1 = .ok (.invokespecial 5, 3) := by decide +kernel
theorem dX2_init_4 : decode cX2_init 4 = .ok (.aload_n 0, 1) := by decide +kernel
theorem dX2_init_5 : decode cX2_init 5 = .ok (.new 11, 3) := by decide +kernel
theorem dX2_init_8 : decode cX2_init 8 = .ok (.dup, 1) := by decide +kernel
theorem dX2_init_9 : decode cX2_init 9 = .ok (.sipush 300, 3) := by decide +kernel
theorem dX2_init_12 : decode cX2_init 12 = .ok (.invokespecial 15, 3) := by decide +kernel
theorem dX2_init_15 : decode cX2_init 15 = .ok (.putfield 18, 3) := by decide +kernel
theorem dX2_init_18 : decode cX2_init 18 = .ok (.aload_n 0, 1) := by decide +kernel
theorem dX2_init_19 : decode cX2_init 19 = .ok (.new 11, 3) := by decide +kernel
theorem dX2_init_22 : decode cX2_init 22 = .ok (.dup, 1) := by decide +kernel
theorem dX2_init_23 : decode cX2_init 23 = .ok (.sipush 300, 3) := by decide +kernel
theorem dX2_init_26 : decode cX2_init 26 = .ok (.invokespecial 15, 3) := by decide +kernel
theorem dX2_init_29 : decode cX2_init 29 = .ok (.putfield 22, 3) := by decide +kernel
theorem dX2_init_32 : decode cX2_init 32 = .ok (.aload_n 0, 1) := by decide +kernel
theorem dX2_init_33 : decode cX2_init 33 = .ok (.new 11, 3) := by decide +kernel
theorem dX2_init_36 : decode cX2_init 36 = .ok (.dup, 1) := by decide +kernel
theorem dX2_init_37 : decode cX2_init 37 = .ok (.sipush 300, 3) := by decide +kernel
theorem dX2_init_40 : decode cX2_init 40 = .ok (.invokespecial 15, 3) := by decide +kernel
theorem dX2_init_43 : decode cX2_init 43 = .ok (.putfield 25, 3) := by decide +kernel
theorem dX2_init_46 : decode cX2_init 46 = .ok (.aload_n 0, 1) := by decide +kernel
theorem dX2_init_47 : decode cX2_init 47 = .ok (.new 11, 3) := by decide +kernel
theorem dX2_init_50 : decode cX2_init 50 = .ok (.dup, 1) := by decide +kernel
theorem dX2_init_51 : decode cX2_init 51 = .ok (.sipush 300, 3) := by decide +kernel
theorem dX2_init_54 : decode cX2_init 54 = .ok (.invokespecial 15, 3) := by decide +kernel
theorem dX2_init_57 : decode cX2_init 57 = .ok (.putfield 28, 3) := by decide +kernel
theorem dX2_init_60 : decode cX2_init 60 = .ok (.aload_n 0, 1) := by decide +kernel
theorem dX2_init_61 : decode cX2_init 61 = .ok (.new 11, 3) := by decide +kernel
theorem dX2_init_64 : decode cX2_init 64 = .ok (.dup, 1) := by decide +kernel
theorem dX2_init_65 : decode cX2_init 65 = .ok (.sipush 300, 3) := by decide +kernel
theorem dX2_init_68 : decode cX2_init 68 = .ok (.invokespecial 15, 3) := by decide +kernel
theorem dX2_init_71 : decode cX2_init 71 = .ok (.putfield 31, 3) := by decide +kernel
theorem dX2_init_74 : decode cX2_init 74 = .ok (.aload_n 0, 1) := by decide +kernel
theorem dX2_init_75 : decode cX2_init 75 = .ok (.new 11, 3) := by decide +kernel
theorem dX2_init_78 : decode cX2_init 78 = .ok (.dup, 1) := by decide +kernel
theorem dX2_init_79 : decode cX2_init 79 = .ok (.sipush 300, 3) := by decide +kernel
theorem dX2_init_82 : decode cX2_init 82 = .ok (.invokespecial 15, 3) := by decide +kernel
theorem dX2_init_85 : decode cX2_init 85 = .ok (.putfield 34, 3) := by decide +kernel
theorem dX2_init_88 : decode cX2_init 88 = .ok (.aload_n 0, 1) := by decide +kernel
theorem dX2_init_89 : decode cX2_init 89 = .ok (.new 11, 3) := by decide +kernel
theorem dX2_init_92 : decode cX2_init 92 = .ok (.dup, 1) := by decide +kernel
theorem dX2_init_93 : decode cX2_init 93 = .ok (.sipush 300, 3) := by decide +kernel
theorem dX2_init_96 : decode cX2_init 96 = .ok (.invokespecial 15, 3) := by decide +kernel
theorem dX2_init_99 : decode cX2_init 99 = .ok (.putfield 37, 3) := by decide +kernel
theorem dX2_init_102 : decode cX2_init 102 = .ok (.aload_n 0, 1) := by decide +kernel
theorem dX2_init_103 : decode cX2_init 103 = .ok (.new 11, 3) := by decide +kernel
theorem dX2_init_106 : decode cX2_init 106 = .ok (.dup, 1) := by decide +kernel
theorem dX2_init_107 : decode cX2_init 107 = .ok (.sipush 300, 3) := by decide +kernel
theorem dX2_init_110 : decode cX2_init 110 = .ok (.invokespecial 15, 3) := by decide +kernel
theorem dX2_init_113 : decode cX2_init 113 = .ok (.putfield 40, 3) := by decide +kernel
theorem dX2_init_116 : decode cX2_init 116 = .ok (.aload_n 0, 1) := by decide +kernel
theorem dX2_init_117 : decode cX2_init 117 = .ok (.new 11, 3) := by decide +kernel
theorem dX2_init_120 : decode cX2_init 120 = .ok (.dup, 1) := by decide +kernel
theorem dX2_init_121 : decode cX2_init 121 = .ok (.bipush 64, 2) := by decide +kernel
theorem dX2_init_123 : decode cX2_init 123 = .ok (.invokespecial 15, 3) := by decide +kernel
theorem dX2_init_126 : decode cX2_init 126 = .ok (.putfield 43, 3) := by decide +kernel
theorem dX2_init_129 : decode cX2_init 129 = .ok (.aload_n 0, 1) := by decide +kernel
theorem dX2_init_130 : decode cX2_init 130 = .ok (.new 11, 3) := by decide +kernel
theorem dX2_init_133 : decode cX2_init 133 = .ok (.dup, 1) := by decide +kernel
theorem dX2_init_134 : decode cX2_init 134 = .ok (.bipush 64, 2) := by decide +kernel
theorem dX2_init_136 : decode cX2_init 136 = .ok (.invokespecial 15, 3) := by decide +kernel
theorem dX2_init_139 : decode cX2_init 139 = .ok (.putfield 46, 3) := by decide +kernel
theorem dX2_init_142 : decode cX2_init 142 = .ok (.aload_n 0, 1) := by decide +kernel
theorem dX2_init_143 : decode cX2_init 143 = .ok (.new 11, 3) := by decide +kernel
theorem dX2_init_146 : decode cX2_init 146 = .ok (.dup, 1) := by decide +kernel
theorem dX2_init_147 : decode cX2_init 147 = .ok (.bipush 64, 2) := by decide +kernel
theorem dX2_init_149 : decode cX2_init 149 = .ok (.invokespecial 15, 3) := by decide +kernel
theorem dX2_init_152 : decode cX2_init 152 = .ok (.putfield 49, 3) := by decide +kernel
theorem dX2_init_155 : decode cX2_init 155 = .ok (.return_, 1) := by decide +kernel
set_option maxRecDepth 20000 in
theorem ggX2_enter_X5_set : GoodIn wsX2_enter wsX5_set := goodIn_r _ [12, 13, 34] (by decide +kernel) (by decide +kernel)
set_option maxRecDepth 20000 in
theorem gX2_enter_X5_set : GoodIn wsX2_enter (wsV RX2 56 RX5 yX5_set wsX5_set) := goodIn_app (goodIn_of _ (by decide +kernel)) ggX2_enter_X5_set
set_option maxRecDepth 20000 in
theorem ggX2_enter_X5_get : GoodIn wsX2_enter wsX5_get := goodIn_r _ [17, 13, 34] (by decide +kernel) (by decide +kernel)
set_option maxRecDepth 20000 in
theorem gX2_enter_X5_get : GoodIn wsX2_enter (wsV RX2 60 RX5 yX5_get wsX5_get) := goodIn_app (goodIn_of _ (by decide +kernel)) ggX2_enter_X5_get
set_option maxRecDepth 20000 in
theorem ggX2_enter_X5_add : GoodIn wsX2_enter wsX5_add := goodIn_r _ [21, 13, 34] (by decide +kernel) (by decide +kernel)
set_option maxRecDepth 20000 in
theorem gX2_enter_X5_add : GoodIn wsX2_enter (wsV RX2 64 RX5 yX5_add wsX5_add) := goodIn_app (goodIn_of _ (by decide +kernel)) ggX2_enter_X5_add
theorem dX2_enter_0 : decode cX2_enter 0 = .ok (.aload_n 0, 1) := by decide +kernel
theorem dX2_enter_1 : decode cX2_enter 1 = .ok (.getfield 52, 3) := by decide +kernel
theorem dX2_enter_4 : decode cX2_enter 4 = .ok (.istore_n 3, 1) := by decide +kernel
theorem dX2_enter_5 : decode cX2_enter 5 = .ok (.aload_n 0, 1) := by decide +kernel
theorem dX2_enter_6 : decode cX2_enter 6 = .ok (.getfield 18, 3) := by decide +kernel
theorem dX2_enter_9 : decode cX2_enter 9 = .ok (.iload_n 3, 1) := by decide +kernel
theorem dX2_enter_10 : decode cX2_enter 10 = .ok (.iload_n 1, 1) := by decide +kernel
theorem dX2_enter_11 : decode cX2_enter 11 = .ok (.invokevirtual 56, 3) := by decide +kernel
theorem dX2_enter_14 : decode cX2_enter 14 = .ok (.aload_n 0, 1) := by decide +kernel
theorem dX2_enter_15 : decode cX2_enter 15 = .ok (.getfield 22, 3) := by decide +kernel
theorem dX2_enter_18 : decode cX2_enter 18 = .ok (.iload_n 3, 1) := by decide +kernel
theorem dX2_enter_19 : decode cX2_enter 19 = .ok (.iload_n 2, 1) := by decide +kernel
theorem dX2_enter_20 : decode cX2_enter 20 = .ok (.invokevirtual 56, 3) := by decide +kernel
theorem dX2_enter_23 : decode cX2_enter 23 = .ok (.aload_n 0, 1) := by decide +kernel
theorem dX2_enter_24 : decode cX2_enter 24 = .ok (.getfield 46, 3) := by decide +kernel
theorem dX2_enter_27 : decode cX2_enter 27 = .ok (.iload_n 1, 1) := by decide +kernel
theorem dX2_enter_28 : decode cX2_enter 28 = .ok (.invokevirtual 60, 3) := by decide +kernel
theorem dX2_enter_31 : decode cX2_enter 31 = .ok (.ifCond .ne 15, 3) := by decide +kernel
theorem dX2_enter_34 : decode cX2_enter 34 = .ok (.aload_n 0, 1) := by decide +kernel
theorem dX2_enter_35 : decode cX2_enter 35 = .ok (.getfield 43, 3) := by decide +kernel
theorem dX2_enter_38 : decode cX2_enter 38 = .ok (.iload_n 1, 1) := by decide +kernel
theorem dX2_enter_39 : decode cX2_enter 39 = .ok (.iload_n 3, 1) := by decide +kernel
theorem dX2_enter_40 : decode cX2_enter 40 = .ok (.invokevirtual 56, 3) := by decide +kernel
theorem dX2_enter_43 : decode cX2_enter 43 = .ok (.goto 19, 3) := by decide +kernel
theorem dX2_enter_46 : decode cX2_enter 46 = .ok (.aload_n 0, 1) := by decide +kernel
theorem dX2_enter_47 : decode cX2_enter 47 = .ok (.getfield 40, 3) := by decide +kernel
theorem dX2_enter_50 : decode cX2_enter 50 = .ok (.aload_n 0, 1) := by decide +kernel
theorem dX2_enter_51 : decode cX2_enter 51 = .ok (.getfield 49, 3) := by decide +kernel
theorem dX2_enter_54 : decode cX2_enter 54 = .ok (.iload_n 1, 1) := by decide +kernel
theorem dX2_enter_55 : decode cX2_enter 55 = .ok (.invokevirtual 60, 3) := by decide +kernel
theorem dX2_enter_58 : decode cX2_enter 58 = .ok (.iload_n 3, 1) := by decide +kernel
theorem dX2_enter_59 : decode cX2_enter 59 = .ok (.invokevirtual 56, 3) := by decide +kernel
theorem dX2_enter_62 : decode cX2_enter 62 = .ok (.aload_n 0, 1) := by decide +kernel
theorem dX2_enter_63 : decode cX2_enter 63 = .ok (.getfield 49, 3) := by decide +kernel
theorem dX2_enter_66 : decode cX2_enter 66 = .ok (.iload_n 1, 1) := by decide +kernel
theorem dX2_enter_67 : decode cX2_enter 67 = .ok (.iload_n 3, 1) := by decide +kernel
theorem dX2_enter_68 : decode cX2_enter 68 = .ok (.invokevirtual 56, 3) := by decide +kernel
theorem dX2_enter_71 : decode cX2_enter 71 = .ok (.aload_n 0, 1) := by decide +kernel
theorem dX2_enter_72 : decode cX2_enter 72 = .ok (.getfield 46, 3) := by decide +kernel
theorem dX2_enter_75 : decode cX2_enter 75 = .ok (.iload_n 1, 1) := by decide +kernel
theorem dX2_enter_76 : decode cX2_enter 76 = .ok (.iconst 1, 1) := by decide +kernel
theorem dX2_enter_77 : decode cX2_enter 77 = .ok (.invokevirtual 64, 3) := by decide +kernel
theorem dX2_enter_80 : decode cX2_enter 80 = .ok (.aload_n 0, 1) := by decide +kernel
theorem dX2_enter_81 : decode cX2_enter 81 = .ok (.dup, 1) := by decide +kernel
theorem dX2_enter_82 : decode cX2_enter 82 = .ok (.getfield 52, 3) := by decide +kernel
theorem dX2_enter_85 : decode cX2_enter 85 = .ok (.iconst 1, 1) := by decide +kernel
theorem dX2_enter_86 : decode cX2_enter 86 = .ok (.iadd, 1) := by decide +kernel
theorem dX2_enter_87 : decode cX2_enter 87 = .ok (.putfield 52, 3) := by decide +kernel
theorem dX2_enter_90 : decode cX2_enter 90 = .ok (.iload_n 3, 1) := by decide +kernel
theorem dX2_enter_91 : decode cX2_enter 91 = .ok (.ireturn, 1) := by decide +kernel
set_option maxRecDepth 20000 in
theorem ggX3_init_X5_init : GoodIn wsX3_init wsX5_init := goodIn_r _ [15, 16, 2, 3, 17, 18, 19, 20, 21, 22, 23] (by decide +kernel) (by decide +kernel)
set_option maxRecDepth 20000 in
theorem gX3_init_X5_init : GoodIn wsX3_init (wsX5_init) := ggX3_init_X5_init
theorem dX3_init_0 : decode cX3_init 0 = .ok (.aload_n 0, 1) := by decide +kernel
theorem dX3_init_1 : decode cX3_init 1 = .ok (.invokespecial 3, 3) := by decide +kernel
theorem dX3_init_4 : decode cX3_init 4 = .ok (.aload_n 0, 1) := by decide +kernel
theorem dX3_init_5 : decode cX3_init 5 = .ok (.new 9, 3) := by decide +kernel
theorem dX3_init_8 : decode cX3_init 8 = .ok (.dup, 1) := by decide +kernel
theorem dX3_init_9 : decode cX3_init 9 = .ok (.bipush 16, 2) := by decide +kernel
theorem dX3_init_11 : decode cX3_init 11 = .ok (.invokespecial 13, 3) := by decide +kernel
theorem dX3_init_14 : decode cX3_init 14 = .ok (.putfield 16, 3) := by decide +kernel
theorem dX3_init_17 : decode cX3_init 17 = .ok (.aload_n 0, 1) := by decide +kernel
theorem dX3_init_18 : decode cX3_init 18 = .ok (.new 9, 3) := by decide +kernel
theorem dX3_init_21 : decode cX3_init 21 = .ok (.dup, 1) := by decide +kernel
theorem dX3_init_22 : decode cX3_init 22 = .ok (.bipush 16, 2) := by decide +kernel
theorem dX3_init_24 : decode cX3_init 24 = .ok (.invokespecial 13, 3) := by decide +kernel
theorem dX3_init_27 : decode cX3_init 27 = .ok (.putfield 20, 3) := by decide +kernel
theorem dX3_init_30 : decode cX3_init 30 = .ok (.aload_n 0, 1) := by decide +kernel
theorem dX3_init_31 : decode cX3_init 31 = .ok (.new 9, 3) := by decide +kernel
theorem dX3_init_34 : decode cX3_init 34 = .ok (.dup, 1) := by decide +kernel
theorem dX3_init_35 : decode cX3_init 35 = .ok (.bipush 16, 2) := by decide +kernel
theorem dX3_init_37 : decode cX3_init 37 = .ok (.invokespecial 13, 3) := by decide +kernel
theorem dX3_init_40 : decode cX3_init 40 = .ok (.putfield 23, 3) := by decide +kernel
theorem dX3_init_43 : decode cX3_init 43 = .ok (.aload_n 0, 1) := by decide +kernel
theorem dX3_init_44 : decode cX3_init 44 = .ok (.new 9, 3) := by decide +kernel
theorem dX3_init_47 : decode cX3_init 47 = .ok (.dup, 1) := by decide +kernel
theorem dX3_init_48 : decode cX3_init 48 = .ok (.bipush 16, 2) := by decide +kernel
theorem dX3_init_50 : decode cX3_init 50 = .ok (.invokespecial 13, 3) := by decide +kernel
theorem dX3_init_53 : decode cX3_init 53 = .ok (.putfield 26, 3) := by decide +kernel
theorem dX3_init_56 : decode cX3_init 56 = .ok (.aload_n 0, 1) := by decide +kernel
theorem dX3_init_57 : decode cX3_init 57 = .ok (.new 9, 3) := by decide +kernel
theorem dX3_init_60 : decode cX3_init 60 = .ok (.dup, 1) := by decide +kernel
theorem dX3_init_61 : decode cX3_init 61 = .ok (.bipush 16, 2) := by decide +kernel
theorem dX3_init_63 : decode cX3_init 63 = .ok (.invokespecial 13, 3) := by decide +kernel
theorem dX3_init_66 : decode cX3_init 66 = .ok (.putfield 29, 3) := by decide +kernel
theorem dX3_init_69 : decode cX3_init 69 = .ok (.aload_n 0, 1) := by decide +kernel
theorem dX3_init_70 : decode cX3_init 70 = .ok (.new 9, 3) := by decide +kernel
theorem dX3_init_73 : decode cX3_init 73 = .ok (.dup, 1) := by decide +kernel
theorem dX3_init_74 : decode cX3_init 74 = .ok (.bipush 16, 2) := by decide +kernel
theorem dX3_init_76 : decode cX3_init 76 = .ok (.invokespecial 13, 3) := by decide +kernel
theorem dX3_init_79 : decode cX3_init 79 = .ok (.putfield 32, 3) := by decide +kernel
theorem dX3_init_82 : decode cX3_init 82 = .ok (.return_, 1) := by decide +kernel
theorem dX3_has_0 : decode cX3_has 0 = .ok (.iload_n 1, 1) := by decide +kernel
theorem dX3_has_1 : decode cX3_has 1 = .ok (.ifCond .lt 15, 3) := by decide +kernel
theorem dX3_has_4 : decode cX3_has 4 = .ok (.iload_n 1, 1) := by decide +kernel
theorem dX3_has_5 : decode cX3_has 5 = .ok (.aload_n 0, 1) := by decide +kernel
theorem dX3_has_6 : decode cX3_has 6 = .ok (.getfield 35, 3) := by decide +kernel
theorem dX3_has_9 : decode cX3_has 9 = .ok (.if_icmp .ge 7, 3) := by decide +kernel
theorem dX3_has_12 : decode cX3_has 12 = .ok (.iconst 1, 1) := by decide +kernel
theorem dX3_has_13 : decode cX3_has 13 = .ok (.goto 4, 3) := by decide +kernel
theorem dX3_has_16 : decode cX3_has 16 = .ok (.iconst 0, 1) := by decide +kernel
theorem dX3_has_17 : decode cX3_has 17 = .ok (.ireturn, 1) := by decide +kernel
set_option maxRecDepth 20000 in
theorem ggX3_enter_X5_set : GoodIn wsX3_enter wsX5_set := goodIn_r _ [10, 11, 23] (by decide +kernel) (by decide +kernel)
set_option maxRecDepth 20000 in
theorem gX3_enter_X5_set : GoodIn wsX3_enter (wsV RX3 39 RX5 yX5_set wsX5_set) := goodIn_app (goodIn_of _ (by decide +kernel)) ggX3_enter_X5_set
set_option maxRecDepth 20000 in
theorem ggX3_enter_X5_put : GoodIn wsX3_enter wsX5_put := goodIn_r _ [15, 11, 23] (by decide +kernel) (by decide +kernel)
set_option maxRecDepth 20000 in
theorem gX3_enter_X5_put : GoodIn wsX3_enter (wsV RX3 43 RX5 yX5_put wsX5_put) := goodIn_app (goodIn_of _ (by decide +kernel)) ggX3_enter_X5_put
theorem dX3_enter_0 : decode cX3_enter 0 = .ok (.aload_n 0, 1) := by decide +kernel
theorem dX3_enter_1 : decode cX3_enter 1 = .ok (.getfield 35, 3) := by decide +kernel
theorem dX3_enter_4 : decode cX3_enter 4 = .ok (.istore 4, 2) := by decide +kernel
theorem dX3_enter_6 : decode cX3_enter 6 = .ok (.aload_n 0, 1) := by decide +kernel
theorem dX3_enter_7 : decode cX3_enter 7 = .ok (.getfield 16, 3) := by decide +kernel
theorem dX3_enter_10 : decode cX3_enter 10 = .ok (.iload 4, 2) := by decide +kernel
theorem dX3_enter_12 : decode cX3_enter 12 = .ok (.iload_n 1, 1) := by decide +kernel
theorem dX3_enter_13 : decode cX3_enter 13 = .ok (.invokevirtual 39, 3) := by decide +kernel
theorem dX3_enter_16 : decode cX3_enter 16 = .ok (.aload_n 0, 1) := by decide +kernel
theorem dX3_enter_17 : decode cX3_enter 17 = .ok (.getfield 29, 3) := by decide +kernel
theorem dX3_enter_20 : decode cX3_enter 20 = .ok (.iload 4, 2) := by decide +kernel
theorem dX3_enter_22 : decode cX3_enter 22 = .ok (.iload_n 2, 1) := by decide +kernel
theorem dX3_enter_23 : decode cX3_enter 23 = .ok (.invokevirtual 39, 3) := by decide +kernel
theorem dX3_enter_26 : decode cX3_enter 26 = .ok (.aload_n 0, 1) := by decide +kernel
theorem dX3_enter_27 : decode cX3_enter 27 = .ok (.getfield 20, 3) := by decide +kernel
theorem dX3_enter_30 : decode cX3_enter 30 = .ok (.iload 4, 2) := by decide +kernel
theorem dX3_enter_32 : decode cX3_enter 32 = .ok (.iload_n 3, 1) := by decide +kernel
theorem dX3_enter_33 : decode cX3_enter 33 = .ok (.invokevirtual 43, 3) := by decide +kernel
theorem dX3_enter_36 : decode cX3_enter 36 = .ok (.aload_n 0, 1) := by decide +kernel
theorem dX3_enter_37 : decode cX3_enter 37 = .ok (.getfield 26, 3) := by decide +kernel
theorem dX3_enter_40 : decode cX3_enter 40 = .ok (.iload 4, 2) := by decide +kernel
theorem dX3_enter_42 : decode cX3_enter 42 = .ok (.iconst (-1), 1) := by decide +kernel
theorem dX3_enter_43 : decode cX3_enter 43 = .ok (.invokevirtual 39, 3) := by decide +kernel
theorem dX3_enter_46 : decode cX3_enter 46 = .ok (.aload_n 0, 1) := by decide +kernel
theorem dX3_enter_47 : decode cX3_enter 47 = .ok (.dup, 1) := by decide +kernel
theorem dX3_enter_48 : decode cX3_enter 48 = .ok (.getfield 35, 3) := by decide +kernel
theorem dX3_enter_51 : decode cX3_enter 51 = .ok (.iconst 1, 1) := by decide +kernel
theorem dX3_enter_52 : decode cX3_enter 52 = .ok (.iadd, 1) := by decide +kernel
theorem dX3_enter_53 : decode cX3_enter 53 = .ok (.putfield 35, 3) := by decide +kernel
theorem dX3_enter_56 : decode cX3_enter 56 = .ok (.iload 4, 2) := by decide +kernel
theorem dX3_enter_58 : decode cX3_enter 58 = .ok (.ireturn, 1) := by decide +kernel
set_option maxRecDepth 20000 in
theorem ggX3_isLacking_X5_get : GoodIn wsX3_isLacking wsX5_get := goodIn_r _ [6, 7, 15] (by decide +kernel) (by decide +kernel)
set_option maxRecDepth 20000 in
theorem gX3_isLacking_X5_get : GoodIn wsX3_isLacking (wsV RX3 47 RX5 yX5_get wsX5_get) := goodIn_app (goodIn_of _ (by decide +kernel)) ggX3_isLacking_X5_get
theorem dX3_isLacking_0 : decode cX3_isLacking 0 = .ok (.aload_n 0, 1) := by decide +kernel
theorem dX3_isLacking_1 : decode cX3_isLacking 1 = .ok (.getfield 29, 3) := by decide +kernel
theorem dX3_isLacking_4 : decode cX3_isLacking 4 = .ok (.iload_n 1, 1) := by decide +kernel
theorem dX3_isLacking_5 : decode cX3_isLacking 5 = .ok (.invokevirtual 47, 3) := by decide +kernel
theorem dX3_isLacking_8 : decode cX3_isLacking 8 = .ok (.iload_n 2, 1) := by decide +kernel
theorem dX3_isLacking_9 : decode cX3_isLacking 9 = .ok (.ishr, 1) := by decide +kernel
theorem dX3_isLacking_10 : decode cX3_isLacking 10 = .ok (.iconst 1, 1) := by decide +kernel
theorem dX3_isLacking_11 : decode cX3_isLacking 11 = .ok (.iand, 1) := by decide +kernel
theorem dX3_isLacking_12 : decode cX3_isLacking 12 = .ok (.ifCond .eq 7, 3) := by decide +kernel
theorem dX3_isLacking_15 : decode cX3_isLacking 15 = .ok (.iconst 1, 1) := by decide +kernel
theorem dX3_isLacking_16 : decode cX3_isLacking 16 = .ok (.goto 4, 3) := by decide +kernel
theorem dX3_isLacking_19 : decode cX3_isLacking 19 = .ok (.iconst 0, 1) := by decide +kernel
theorem dX3_isLacking_20 : decode cX3_isLacking 20 = .ok (.ireturn, 1) := by decide +kernel
set_option maxRecDepth 20000 in
theorem ggX3_isAppealed_X5_get : GoodIn wsX3_isAppealed wsX5_get := goodIn_r _ [6, 7, 15] (by decide +kernel) (by decide +kernel)
set_option maxRecDepth 20000 in
theorem gX3_isAppealed_X5_get : GoodIn wsX3_isAppealed (wsV RX3 47 RX5 yX5_get wsX5_get) := goodIn_app (goodIn_of _ (by decide +kernel)) ggX3_isAppealed_X5_get
theorem dX3_isAppealed_0 : decode cX3_isAppealed 0 = .ok (.aload_n 0, 1) := by decide +kernel
theorem dX3_isAppealed_1 : decode cX3_isAppealed 1 = .ok (.getfield 32, 3) := by decide +kernel
theorem dX3_isAppealed_4 : decode cX3_isAppealed 4 = .ok (.iload_n 1, 1) := by decide +kernel
theorem dX3_isAppealed_5 : decode cX3_isAppealed 5 = .ok (.invokevirtual 47, 3) := by decide +kernel
theorem dX3_isAppealed_8 : decode cX3_isAppealed 8 = .ok (.iload_n 2, 1) := by decide +kernel
theorem dX3_isAppealed_9 : decode cX3_isAppealed 9 = .ok (.ishr, 1) := by decide +kernel
theorem dX3_isAppealed_10 : decode cX3_isAppealed 10 = .ok (.iconst 1, 1) := by decide +kernel
theorem dX3_isAppealed_11 : decode cX3_isAppealed 11 = .ok (.iand, 1) := by decide +kernel
theorem dX3_isAppealed_12 : decode cX3_isAppealed 12 = .ok (.ifCond .eq 7, 3) := by decide +kernel
theorem dX3_isAppealed_15 : decode cX3_isAppealed 15 = .ok (.iconst 1, 1) := by decide +kernel
theorem dX3_isAppealed_16 : decode cX3_isAppealed 16 = .ok (.goto 4, 3) := by decide +kernel
theorem dX3_isAppealed_19 : decode cX3_isAppealed 19 = .ok (.iconst 0, 1) := by decide +kernel
theorem dX3_isAppealed_20 : decode cX3_isAppealed 20 = .ok (.ireturn, 1) := by decide +kernel
set_option maxRecDepth 20000 in
theorem ggX3_noteAppeal_X5_get : GoodIn wsX3_noteAppeal wsX5_get := goodIn_r _ [6, 7, 19] (by decide +kernel) (by decide +kernel)
set_option maxRecDepth 20000 in
theorem gX3_noteAppeal_X5_get : GoodIn wsX3_noteAppeal (wsV RX3 47 RX5 yX5_get wsX5_get) := goodIn_app (goodIn_of _ (by decide +kernel)) ggX3_noteAppeal_X5_get
set_option maxRecDepth 20000 in
theorem ggX3_noteAppeal_X5_set : GoodIn wsX3_noteAppeal wsX5_set := goodIn_r _ [11, 7, 19] (by decide +kernel) (by decide +kernel)
set_option maxRecDepth 20000 in
theorem gX3_noteAppeal_X5_set : GoodIn wsX3_noteAppeal (wsV RX3 39 RX5 yX5_set wsX5_set) := goodIn_app (goodIn_of _ (by decide +kernel)) ggX3_noteAppeal_X5_set
theorem dX3_noteAppeal_0 : decode cX3_noteAppeal 0 = .ok (.aload_n 0, 1) := by decide +kernel
theorem dX3_noteAppeal_1 : decode cX3_noteAppeal 1 = .ok (.getfield 32, 3) := by decide +kernel
theorem dX3_noteAppeal_4 : decode cX3_noteAppeal 4 = .ok (.iload_n 1, 1) := by decide +kernel
theorem dX3_noteAppeal_5 : decode cX3_noteAppeal 5 = .ok (.aload_n 0, 1) := by decide +kernel
theorem dX3_noteAppeal_6 : decode cX3_noteAppeal 6 = .ok (.getfield 32, 3) := by decide +kernel
theorem dX3_noteAppeal_9 : decode cX3_noteAppeal 9 = .ok (.iload_n 1, 1) := by decide +kernel
theorem dX3_noteAppeal_10 : decode cX3_noteAppeal 10 = .ok (.invokevirtual 47, 3) := by decide +kernel
theorem dX3_noteAppeal_13 : decode cX3_noteAppeal 13 = .ok (.iconst 1, 1) := by decide +kernel
theorem dX3_noteAppeal_14 : decode cX3_noteAppeal 14 = .ok (.iload_n 2, 1) := by decide +kernel
theorem dX3_noteAppeal_15 : decode cX3_noteAppeal 15 = .ok (.ishl, 1) := by decide +kernel
theorem dX3_noteAppeal_16 : decode cX3_noteAppeal 16 = .ok (.ior, 1) := by decide +kernel
theorem dX3_noteAppeal_17 : decode cX3_noteAppeal 17 = .ok (.invokevirtual 39, 3) := by decide +kernel
theorem dX3_noteAppeal_20 : decode cX3_noteAppeal 20 = .ok (.return_, 1) := by decide +kernel
set_option maxRecDepth 20000 in
theorem ggX4_init_X5_init : GoodIn wsX4_init wsX5_init := goodIn_r _ [21, 22, 2, 3, 23, 24, 25, 26, 27, 28, 29] (by decide +kernel) (by decide +kernel)
set_option maxRecDepth 20000 in
theorem gX4_init_X5_init : GoodIn wsX4_init (wsX5_init) := ggX4_init_X5_init
theorem dX4_init_0 : decode cX4_init 0 = .ok (.aload_n 0, 1) := by decide +kernel
theorem dX4_init_1 : decode cX4_init 1 = .ok (.invokespecial 3, 3) := by decide +kernel
theorem dX4_init_4 : decode cX4_init 4 = .ok (.aload_n 0, 1) := by decide +kernel
theorem dX4_init_5 : decode cX4_init 5 = .ok (.new 9, 3) := by decide +kernel
theorem dX4_init_8 : decode cX4_init 8 = .ok (.dup, 1) := by decide +kernel
theorem dX4_init_9 : decode cX4_init 9 = .ok (.bipush 6, 2) := by decide +kernel
theorem dX4_init_11 : decode cX4_init 11 = .ok (.invokespecial 13, 3) := by decide +kernel
theorem dX4_init_14 : decode cX4_init 14 = .ok (.putfield 16, 3) := by decide +kernel
theorem dX4_init_17 : decode cX4_init 17 = .ok (.aload_n 0, 1) := by decide +kernel
theorem dX4_init_18 : decode cX4_init 18 = .ok (.new 9, 3) := by decide +kernel
theorem dX4_init_21 : decode cX4_init 21 = .ok (.dup, 1) := by decide +kernel
theorem dX4_init_22 : decode cX4_init 22 = .ok (.bipush 6, 2) := by decide +kernel
theorem dX4_init_24 : decode cX4_init 24 = .ok (.invokespecial 13, 3) := by decide +kernel
theorem dX4_init_27 : decode cX4_init 27 = .ok (.putfield 20, 3) := by decide +kernel
theorem dX4_init_30 : decode cX4_init 30 = .ok (.aload_n 0, 1) := by decide +kernel
theorem dX4_init_31 : decode cX4_init 31 = .ok (.new 9, 3) := by decide +kernel
theorem dX4_init_34 : decode cX4_init 34 = .ok (.dup, 1) := by decide +kernel
theorem dX4_init_35 : decode cX4_init 35 = .ok (.bipush 6, 2) := by decide +kernel
theorem dX4_init_37 : decode cX4_init 37 = .ok (.invokespecial 13, 3) := by decide +kernel
theorem dX4_init_40 : decode cX4_init 40 = .ok (.putfield 23, 3) := by decide +kernel
theorem dX4_init_43 : decode cX4_init 43 = .ok (.aload_n 0, 1) := by decide +kernel
theorem dX4_init_44 : decode cX4_init 44 = .ok (.new 9, 3) := by decide +kernel
theorem dX4_init_47 : decode cX4_init 47 = .ok (.dup, 1) := by decide +kernel
theorem dX4_init_48 : decode cX4_init 48 = .ok (.bipush 6, 2) := by decide +kernel
theorem dX4_init_50 : decode cX4_init 50 = .ok (.invokespecial 13, 3) := by decide +kernel
theorem dX4_init_53 : decode cX4_init 53 = .ok (.putfield 26, 3) := by decide +kernel
theorem dX4_init_56 : decode cX4_init 56 = .ok (.aload_n 0, 1) := by decide +kernel
theorem dX4_init_57 : decode cX4_init 57 = .ok (.new 9, 3) := by decide +kernel
theorem dX4_init_60 : decode cX4_init 60 = .ok (.dup, 1) := by decide +kernel
theorem dX4_init_61 : decode cX4_init 61 = .ok (.bipush 6, 2) := by decide +kernel
theorem dX4_init_63 : decode cX4_init 63 = .ok (.invokespecial 13, 3) := by decide +kernel
theorem dX4_init_66 : decode cX4_init 66 = .ok (.putfield 29, 3) := by decide +kernel
theorem dX4_init_69 : decode cX4_init 69 = .ok (.aload_n 0, 1) := by decide +kernel
theorem dX4_init_70 : decode cX4_init 70 = .ok (.new 9, 3) := by decide +kernel
theorem dX4_init_73 : decode cX4_init 73 = .ok (.dup, 1) := by decide +kernel
theorem dX4_init_74 : decode cX4_init 74 = .ok (.bipush 6, 2) := by decide +kernel
theorem dX4_init_76 : decode cX4_init 76 = .ok (.invokespecial 13, 3) := by decide +kernel
theorem dX4_init_79 : decode cX4_init 79 = .ok (.putfield 32, 3) := by decide +kernel
theorem dX4_init_82 : decode cX4_init 82 = .ok (.aload_n 0, 1) := by decide +kernel
theorem dX4_init_83 : decode cX4_init 83 = .ok (.new 9, 3) := by decide +kernel
theorem dX4_init_86 : decode cX4_init 86 = .ok (.dup, 1) := by decide +kernel
theorem dX4_init_87 : decode cX4_init 87 = .ok (.bipush 6, 2) := by decide +kernel
theorem dX4_init_89 : decode cX4_init 89 = .ok (.invokespecial 13, 3) := by decide +kernel
theorem dX4_init_92 : decode cX4_init 92 = .ok (.putfield 35, 3) := by decide +kernel
theorem dX4_init_95 : decode cX4_init 95 = .ok (.aload_n 0, 1) := by decide +kernel
theorem dX4_init_96 : decode cX4_init 96 = .ok (.new 9, 3) := by decide +kernel
theorem dX4_init_99 : decode cX4_init 99 = .ok (.dup, 1) := by decide +kernel
theorem dX4_init_100 : decode cX4_init 100 = .ok (.bipush 6, 2) := by decide +kernel
theorem dX4_init_102 : decode cX4_init 102 = .ok (.invokespecial 13, 3) := by decide +kernel
theorem dX4_init_105 : decode cX4_init 105 = .ok (.putfield 38, 3) := by decide +kernel
theorem dX4_init_108 : decode cX4_init 108 = .ok (.aload_n 0, 1) := by decide +kernel
theorem dX4_init_109 : decode cX4_init 109 = .ok (.new 9, 3) := by decide +kernel
theorem dX4_init_112 : decode cX4_init 112 = .ok (.dup, 1) := by decide +kernel
theorem dX4_init_113 : decode cX4_init 113 = .ok (.bipush 6, 2) := by decide +kernel
theorem dX4_init_115 : decode cX4_init 115 = .ok (.invokespecial 13, 3) := by decide +kernel
theorem dX4_init_118 : decode cX4_init 118 = .ok (.putfield 41, 3) := by decide +kernel
theorem dX4_init_121 : decode cX4_init 121 = .ok (.aload_n 0, 1) := by decide +kernel
theorem dX4_init_122 : decode cX4_init 122 = .ok (.new 9, 3) := by decide +kernel
theorem dX4_init_125 : decode cX4_init 125 = .ok (.dup, 1) := by decide +kernel
theorem dX4_init_126 : decode cX4_init 126 = .ok (.bipush 6, 2) := by decide +kernel
theorem dX4_init_128 : decode cX4_init 128 = .ok (.invokespecial 13, 3) := by decide +kernel
theorem dX4_init_131 : decode cX4_init 131 = .ok (.putfield 44, 3) := by decide +kernel
theorem dX4_init_134 : decode cX4_init 134 = .ok (.aload_n 0, 1) := by decide +kernel
theorem dX4_init_135 : decode cX4_init 135 = .ok (.new 9, 3) := by decide +kernel
theorem dX4_init_138 : decode cX4_init 138 = .ok (.dup, 1) := by decide +kernel
theorem dX4_init_139 : decode cX4_init 139 = .ok (.bipush 6, 2) := by decide +kernel
theorem dX4_init_141 : decode cX4_init 141 = .ok (.invokespecial 13, 3) := by decide +kernel
theorem dX4_init_144 : decode cX4_init 144 = .ok (.putfield 47, 3) := by decide +kernel
theorem dX4_init_147 : decode cX4_init 147 = .ok (.aload_n 0, 1) := by decide +kernel
theorem dX4_init_148 : decode cX4_init 148 = .ok (.new 9, 3) := by decide +kernel
theorem dX4_init_151 : decode cX4_init 151 = .ok (.dup, 1) := by decide +kernel
theorem dX4_init_152 : decode cX4_init 152 = .ok (.bipush 6, 2) := by decide +kernel
theorem dX4_init_154 : decode cX4_init 154 = .ok (.invokespecial 13, 3) := by decide +kernel
theorem dX4_init_157 : decode cX4_init 157 = .ok (.putfield 50, 3) := by decide +kernel
theorem dX4_init_160 : decode cX4_init 160 = .ok (.return_, 1) := by decide +kernel
theorem dX4_has_0 : decode cX4_has 0 = .ok (.iload_n 1, 1) := by decide +kernel
theorem dX4_has_1 : decode cX4_has 1 = .ok (.ifCond .lt 15, 3) := by decide +kernel
theorem dX4_has_4 : decode cX4_has 4 = .ok (.iload_n 1, 1) := by decide +kernel
theorem dX4_has_5 : decode cX4_has 5 = .ok (.aload_n 0, 1) := by decide +kernel
theorem dX4_has_6 : decode cX4_has 6 = .ok (.getfield 53, 3) := by decide +kernel
theorem dX4_has_9 : decode cX4_has 9 = .ok (.if_icmp .ge 7, 3) := by decide +kernel
theorem dX4_has_12 : decode cX4_has 12 = .ok (.iconst 1, 1) := by decide +kernel
theorem dX4_has_13 : decode cX4_has 13 = .ok (.goto 4, 3) := by decide +kernel
theorem dX4_has_16 : decode cX4_has 16 = .ok (.iconst 0, 1) := by decide +kernel
theorem dX4_has_17 : decode cX4_has 17 = .ok (.ireturn, 1) := by decide +kernel
set_option maxRecDepth 20000 in
theorem ggX4_enter_X5_set : GoodIn wsX4_enter wsX5_set := goodIn_r _ [10, 11, 29] (by decide +kernel) (by decide +kernel)
set_option maxRecDepth 20000 in
theorem gX4_enter_X5_set : GoodIn wsX4_enter (wsV RX4 57 RX5 yX5_set wsX5_set) := goodIn_app (goodIn_of _ (by decide +kernel)) ggX4_enter_X5_set
set_option maxRecDepth 20000 in
theorem ggX4_enter_X5_put : GoodIn wsX4_enter wsX5_put := goodIn_r _ [15, 11, 29] (by decide +kernel) (by decide +kernel)
set_option maxRecDepth 20000 in
theorem gX4_enter_X5_put : GoodIn wsX4_enter (wsV RX4 61 RX5 yX5_put wsX5_put) := goodIn_app (goodIn_of _ (by decide +kernel)) ggX4_enter_X5_put
theorem dX4_enter_0 : decode cX4_enter 0 = .ok (.aload_n 0, 1) := by decide +kernel
theorem dX4_enter_1 : decode cX4_enter 1 = .ok (.getfield 53, 3) := by decide +kernel
theorem dX4_enter_4 : decode cX4_enter 4 = .ok (.istore 4, 2) := by decide +kernel
theorem dX4_enter_6 : decode cX4_enter 6 = .ok (.aload_n 0, 1) := by decide +kernel
theorem dX4_enter_7 : decode cX4_enter 7 = .ok (.getfield 16, 3) := by decide +kernel
theorem dX4_enter_10 : decode cX4_enter 10 = .ok (.iload 4, 2) := by decide +kernel
theorem dX4_enter_12 : decode cX4_enter 12 = .ok (.iload_n 1, 1) := by decide +kernel
theorem dX4_enter_13 : decode cX4_enter 13 = .ok (.invokevirtual 57, 3) := by decide +kernel
theorem dX4_enter_16 : decode cX4_enter 16 = .ok (.aload_n 0, 1) := by decide +kernel
theorem dX4_enter_17 : decode cX4_enter 17 = .ok (.getfield 50, 3) := by decide +kernel
theorem dX4_enter_20 : decode cX4_enter 20 = .ok (.iload 4, 2) := by decide +kernel
theorem dX4_enter_22 : decode cX4_enter 22 = .ok (.iload_n 2, 1) := by decide +kernel
theorem dX4_enter_23 : decode cX4_enter 23 = .ok (.invokevirtual 57, 3) := by decide +kernel
theorem dX4_enter_26 : decode cX4_enter 26 = .ok (.aload_n 0, 1) := by decide +kernel
theorem dX4_enter_27 : decode cX4_enter 27 = .ok (.getfield 20, 3) := by decide +kernel
theorem dX4_enter_30 : decode cX4_enter 30 = .ok (.iload 4, 2) := by decide +kernel
theorem dX4_enter_32 : decode cX4_enter 32 = .ok (.iload_n 3, 1) := by decide +kernel
theorem dX4_enter_33 : decode cX4_enter 33 = .ok (.invokevirtual 61, 3) := by decide +kernel
theorem dX4_enter_36 : decode cX4_enter 36 = .ok (.aload_n 0, 1) := by decide +kernel
theorem dX4_enter_37 : decode cX4_enter 37 = .ok (.getfield 26, 3) := by decide +kernel
theorem dX4_enter_40 : decode cX4_enter 40 = .ok (.iload 4, 2) := by decide +kernel
theorem dX4_enter_42 : decode cX4_enter 42 = .ok (.iconst (-1), 1) := by decide +kernel
theorem dX4_enter_43 : decode cX4_enter 43 = .ok (.invokevirtual 57, 3) := by decide +kernel
theorem dX4_enter_46 : decode cX4_enter 46 = .ok (.aload_n 0, 1) := by decide +kernel
theorem dX4_enter_47 : decode cX4_enter 47 = .ok (.dup, 1) := by decide +kernel
theorem dX4_enter_48 : decode cX4_enter 48 = .ok (.getfield 53, 3) := by decide +kernel
theorem dX4_enter_51 : decode cX4_enter 51 = .ok (.iconst 1, 1) := by decide +kernel
theorem dX4_enter_52 : decode cX4_enter 52 = .ok (.iadd, 1) := by decide +kernel
theorem dX4_enter_53 : decode cX4_enter 53 = .ok (.putfield 53, 3) := by decide +kernel
theorem dX4_enter_56 : decode cX4_enter 56 = .ok (.iload 4, 2) := by decide +kernel
theorem dX4_enter_58 : decode cX4_enter 58 = .ok (.ireturn, 1) := by decide +kernel
set_option maxRecDepth 20000 in
theorem ggX4_isFor_X5_get : GoodIn wsX4_isFor wsX5_get := goodIn_r _ [6, 7, 21] (by decide +kernel) (by decide +kernel)
set_option maxRecDepth 20000 in
theorem gX4_isFor_X5_get : GoodIn wsX4_isFor (wsV RX4 65 RX5 yX5_get wsX5_get) := goodIn_app (goodIn_of _ (by decide +kernel)) ggX4_isFor_X5_get
theorem dX4_isFor_0 : decode cX4_isFor 0 = .ok (.aload_n 0, 1) := by decide +kernel
theorem dX4_isFor_1 : decode cX4_isFor 1 = .ok (.getfield 50, 3) := by decide +kernel
theorem dX4_isFor_4 : decode cX4_isFor 4 = .ok (.iload_n 1, 1) := by decide +kernel
theorem dX4_isFor_5 : decode cX4_isFor 5 = .ok (.invokevirtual 65, 3) := by decide +kernel
theorem dX4_isFor_8 : decode cX4_isFor 8 = .ok (.iload_n 2, 1) := by decide +kernel
theorem dX4_isFor_9 : decode cX4_isFor 9 = .ok (.ishr, 1) := by decide +kernel
theorem dX4_isFor_10 : decode cX4_isFor 10 = .ok (.iconst 1, 1) := by decide +kernel
theorem dX4_isFor_11 : decode cX4_isFor 11 = .ok (.iand, 1) := by decide +kernel
theorem dX4_isFor_12 : decode cX4_isFor 12 = .ok (.ifCond .eq 7, 3) := by decide +kernel
theorem dX4_isFor_15 : decode cX4_isFor 15 = .ok (.iconst 1, 1) := by decide +kernel
theorem dX4_isFor_16 : decode cX4_isFor 16 = .ok (.goto 4, 3) := by decide +kernel
theorem dX4_isFor_19 : decode cX4_isFor 19 = .ok (.iconst 0, 1) := by decide +kernel
theorem dX4_isFor_20 : decode cX4_isFor 20 = .ok (.ireturn, 1) := by decide +kernel
set_option maxRecDepth 20000 in
theorem ggX4_holding_X5_get : GoodIn wsX4_holding wsX5_get := goodIn_r _ [7, 8, 22] (by decide +kernel) (by decide +kernel)
set_option maxRecDepth 20000 in
theorem gX4_holding_X5_get : GoodIn wsX4_holding (wsV RX4 65 RX5 yX5_get wsX5_get) := goodIn_app (goodIn_of _ (by decide +kernel)) ggX4_holding_X5_get
theorem dX4_holding_0 : decode cX4_holding 0 = .ok (.iconst 0, 1) := by decide +kernel
theorem dX4_holding_1 : decode cX4_holding 1 = .ok (.istore_n 2, 1) := by decide +kernel
theorem dX4_holding_2 : decode cX4_holding 2 = .ok (.iconst 0, 1) := by decide +kernel
theorem dX4_holding_3 : decode cX4_holding 3 = .ok (.istore_n 3, 1) := by decide +kernel
theorem dX4_holding_4 : decode cX4_holding 4 = .ok (.iload_n 3, 1) := by decide +kernel
theorem dX4_holding_5 : decode cX4_holding 5 = .ok (.aload_n 0, 1) := by decide +kernel
theorem dX4_holding_6 : decode cX4_holding 6 = .ok (.getfield 53, 3) := by decide +kernel
theorem dX4_holding_9 : decode cX4_holding 9 = .ok (.if_icmp .ge 24, 3) := by decide +kernel
theorem dX4_holding_12 : decode cX4_holding 12 = .ok (.aload_n 0, 1) := by decide +kernel
theorem dX4_holding_13 : decode cX4_holding 13 = .ok (.getfield 26, 3) := by decide +kernel
theorem dX4_holding_16 : decode cX4_holding 16 = .ok (.iload_n 3, 1) := by decide +kernel
theorem dX4_holding_17 : decode cX4_holding 17 = .ok (.invokevirtual 65, 3) := by decide +kernel
theorem dX4_holding_20 : decode cX4_holding 20 = .ok (.iload_n 1, 1) := by decide +kernel
theorem dX4_holding_21 : decode cX4_holding 21 = .ok (.if_icmp .ne 6, 3) := by decide +kernel
theorem dX4_holding_24 : decode cX4_holding 24 = .ok (.iinc 2 1, 3) := by decide +kernel
theorem dX4_holding_27 : decode cX4_holding 27 = .ok (.iinc 3 1, 3) := by decide +kernel
theorem dX4_holding_30 : decode cX4_holding 30 = .ok (.goto (-26), 3) := by decide +kernel
theorem dX4_holding_33 : decode cX4_holding 33 = .ok (.iload_n 2, 1) := by decide +kernel
theorem dX4_holding_34 : decode cX4_holding 34 = .ok (.ireturn, 1) := by decide +kernel
set_option maxRecDepth 20000 in
theorem ggX4_handSeed_X5_set : GoodIn wsX4_handSeed wsX5_set := goodIn_r _ [8, 9, 27] (by decide +kernel) (by decide +kernel)
set_option maxRecDepth 20000 in
theorem gX4_handSeed_X5_set : GoodIn wsX4_handSeed (wsV RX4 57 RX5 yX5_set wsX5_set) := goodIn_app (goodIn_of _ (by decide +kernel)) ggX4_handSeed_X5_set
set_option maxRecDepth 20000 in
theorem ggX4_handSeed_X5_get : GoodIn wsX4_handSeed wsX5_get := goodIn_r _ [13, 9, 27] (by decide +kernel) (by decide +kernel)
set_option maxRecDepth 20000 in
theorem gX4_handSeed_X5_get : GoodIn wsX4_handSeed (wsV RX4 65 RX5 yX5_get wsX5_get) := goodIn_app (goodIn_of _ (by decide +kernel)) ggX4_handSeed_X5_get
theorem dX4_handSeed_0 : decode cX4_handSeed 0 = .ok (.aload_n 0, 1) := by decide +kernel
theorem dX4_handSeed_1 : decode cX4_handSeed 1 = .ok (.getfield 26, 3) := by decide +kernel
theorem dX4_handSeed_4 : decode cX4_handSeed 4 = .ok (.iload_n 1, 1) := by decide +kernel
theorem dX4_handSeed_5 : decode cX4_handSeed 5 = .ok (.iload_n 3, 1) := by decide +kernel
theorem dX4_handSeed_6 : decode cX4_handSeed 6 = .ok (.invokevirtual 57, 3) := by decide +kernel
theorem dX4_handSeed_9 : decode cX4_handSeed 9 = .ok (.aload_n 0, 1) := by decide +kernel
theorem dX4_handSeed_10 : decode cX4_handSeed 10 = .ok (.getfield 29, 3) := by decide +kernel
theorem dX4_handSeed_13 : decode cX4_handSeed 13 = .ok (.iload_n 1, 1) := by decide +kernel
theorem dX4_handSeed_14 : decode cX4_handSeed 14 = .ok (.iload_n 2, 1) := by decide +kernel
theorem dX4_handSeed_15 : decode cX4_handSeed 15 = .ok (.invokevirtual 57, 3) := by decide +kernel
theorem dX4_handSeed_18 : decode cX4_handSeed 18 = .ok (.aload_n 0, 1) := by decide +kernel
theorem dX4_handSeed_19 : decode cX4_handSeed 19 = .ok (.getfield 47, 3) := by decide +kernel
theorem dX4_handSeed_22 : decode cX4_handSeed 22 = .ok (.iload_n 1, 1) := by decide +kernel
theorem dX4_handSeed_23 : decode cX4_handSeed 23 = .ok (.aload_n 0, 1) := by decide +kernel
theorem dX4_handSeed_24 : decode cX4_handSeed 24 = .ok (.getfield 47, 3) := by decide +kernel
theorem dX4_handSeed_27 : decode cX4_handSeed 27 = .ok (.iload_n 1, 1) := by decide +kernel
theorem dX4_handSeed_28 : decode cX4_handSeed 28 = .ok (.invokevirtual 65, 3) := by decide +kernel
theorem dX4_handSeed_31 : decode cX4_handSeed 31 = .ok (.iconst 1, 1) := by decide +kernel
theorem dX4_handSeed_32 : decode cX4_handSeed 32 = .ok (.iload_n 2, 1) := by decide +kernel
theorem dX4_handSeed_33 : decode cX4_handSeed 33 = .ok (.ishl, 1) := by decide +kernel
theorem dX4_handSeed_34 : decode cX4_handSeed 34 = .ok (.ior, 1) := by decide +kernel
theorem dX4_handSeed_35 : decode cX4_handSeed 35 = .ok (.invokevirtual 57, 3) := by decide +kernel
theorem dX4_handSeed_38 : decode cX4_handSeed 38 = .ok (.return_, 1) := by decide +kernel
set_option maxRecDepth 20000 in
theorem ggX4_handAnswer_X5_set : GoodIn wsX4_handAnswer wsX5_set := goodIn_r _ [7, 8, 26] (by decide +kernel) (by decide +kernel)
set_option maxRecDepth 20000 in
theorem gX4_handAnswer_X5_set : GoodIn wsX4_handAnswer (wsV RX4 57 RX5 yX5_set wsX5_set) := goodIn_app (goodIn_of _ (by decide +kernel)) ggX4_handAnswer_X5_set
set_option maxRecDepth 20000 in
theorem ggX4_handAnswer_X5_put : GoodIn wsX4_handAnswer wsX5_put := goodIn_r _ [12, 8, 26] (by decide +kernel) (by decide +kernel)
set_option maxRecDepth 20000 in
theorem gX4_handAnswer_X5_put : GoodIn wsX4_handAnswer (wsV RX4 61 RX5 yX5_put wsX5_put) := goodIn_app (goodIn_of _ (by decide +kernel)) ggX4_handAnswer_X5_put
theorem dX4_handAnswer_0 : decode cX4_handAnswer 0 = .ok (.aload_n 0, 1) := by decide +kernel
theorem dX4_handAnswer_1 : decode cX4_handAnswer 1 = .ok (.getfield 26, 3) := by decide +kernel
theorem dX4_handAnswer_4 : decode cX4_handAnswer 4 = .ok (.iload_n 1, 1) := by decide +kernel
theorem dX4_handAnswer_5 : decode cX4_handAnswer 5 = .ok (.iload_n 2, 1) := by decide +kernel
theorem dX4_handAnswer_6 : decode cX4_handAnswer 6 = .ok (.invokevirtual 57, 3) := by decide +kernel
theorem dX4_handAnswer_9 : decode cX4_handAnswer 9 = .ok (.aload_n 0, 1) := by decide +kernel
theorem dX4_handAnswer_10 : decode cX4_handAnswer 10 = .ok (.getfield 32, 3) := by decide +kernel
theorem dX4_handAnswer_13 : decode cX4_handAnswer 13 = .ok (.iload_n 1, 1) := by decide +kernel
theorem dX4_handAnswer_14 : decode cX4_handAnswer 14 = .ok (.iload_n 3, 1) := by decide +kernel
theorem dX4_handAnswer_15 : decode cX4_handAnswer 15 = .ok (.invokevirtual 61, 3) := by decide +kernel
theorem dX4_handAnswer_18 : decode cX4_handAnswer 18 = .ok (.return_, 1) := by decide +kernel
set_option maxRecDepth 20000 in
theorem ggX4_emptyHand_X5_set : GoodIn wsX4_emptyHand wsX5_set := goodIn_r _ [6, 7, 21] (by decide +kernel) (by decide +kernel)
set_option maxRecDepth 20000 in
theorem gX4_emptyHand_X5_set : GoodIn wsX4_emptyHand (wsV RX4 57 RX5 yX5_set wsX5_set) := goodIn_app (goodIn_of _ (by decide +kernel)) ggX4_emptyHand_X5_set
theorem dX4_emptyHand_0 : decode cX4_emptyHand 0 = .ok (.aload_n 0, 1) := by decide +kernel
theorem dX4_emptyHand_1 : decode cX4_emptyHand 1 = .ok (.getfield 26, 3) := by decide +kernel
theorem dX4_emptyHand_4 : decode cX4_emptyHand 4 = .ok (.iload_n 1, 1) := by decide +kernel
theorem dX4_emptyHand_5 : decode cX4_emptyHand 5 = .ok (.iconst (-1), 1) := by decide +kernel
theorem dX4_emptyHand_6 : decode cX4_emptyHand 6 = .ok (.invokevirtual 57, 3) := by decide +kernel
theorem dX4_emptyHand_9 : decode cX4_emptyHand 9 = .ok (.return_, 1) := by decide +kernel
set_option maxRecDepth 20000 in
theorem ggX4_startAnew_X5_set : GoodIn wsX4_startAnew wsX5_set := goodIn_r _ [7, 8, 22] (by decide +kernel) (by decide +kernel)
set_option maxRecDepth 20000 in
theorem gX4_startAnew_X5_set : GoodIn wsX4_startAnew (wsV RX4 57 RX5 yX5_set wsX5_set) := goodIn_app (goodIn_of _ (by decide +kernel)) ggX4_startAnew_X5_set
theorem dX4_startAnew_0 : decode cX4_startAnew 0 = .ok (.aload_n 0, 1) := by decide +kernel
theorem dX4_startAnew_1 : decode cX4_startAnew 1 = .ok (.getfield 41, 3) := by decide +kernel
theorem dX4_startAnew_4 : decode cX4_startAnew 4 = .ok (.iload_n 1, 1) := by decide +kernel
theorem dX4_startAnew_5 : decode cX4_startAnew 5 = .ok (.iconst 0, 1) := by decide +kernel
theorem dX4_startAnew_6 : decode cX4_startAnew 6 = .ok (.invokevirtual 57, 3) := by decide +kernel
theorem dX4_startAnew_9 : decode cX4_startAnew 9 = .ok (.aload_n 0, 1) := by decide +kernel
theorem dX4_startAnew_10 : decode cX4_startAnew 10 = .ok (.getfield 44, 3) := by decide +kernel
theorem dX4_startAnew_13 : decode cX4_startAnew 13 = .ok (.iload_n 1, 1) := by decide +kernel
theorem dX4_startAnew_14 : decode cX4_startAnew 14 = .ok (.iload_n 2, 1) := by decide +kernel
theorem dX4_startAnew_15 : decode cX4_startAnew 15 = .ok (.invokevirtual 57, 3) := by decide +kernel
theorem dX4_startAnew_18 : decode cX4_startAnew 18 = .ok (.return_, 1) := by decide +kernel
theorem dX5_init_0 : decode cX5_init 0 = .ok (.aload_n 0, 1) := by decide +kernel
theorem dX5_init_1 : decode cX5_init 1 = .ok (.invokespecial 1, 3) := by decide +kernel
theorem dX5_init_4 : decode cX5_init 4 = .ok (.aload_n 0, 1) := by decide +kernel
theorem dX5_init_5 : decode cX5_init 5 = .ok (.iload_n 1, 1) := by decide +kernel
theorem dX5_init_6 : decode cX5_init 6 = .ok (.iconst 0, 1) := by decide +kernel
theorem dX5_init_7 : decode cX5_init 7 = .ok (.invokestatic 7, 3) := by decide +kernel
theorem dX5_init_10 : decode cX5_init 10 = .ok (.newarray .int, 2) := by decide +kernel
theorem dX5_init_12 : decode cX5_init 12 = .ok (.putfield 13, 3) := by decide +kernel
theorem dX5_init_15 : decode cX5_init 15 = .ok (.return_, 1) := by decide +kernel
theorem dX5_get_0 : decode cX5_get 0 = .ok (.iload_n 1, 1) := by decide +kernel
theorem dX5_get_1 : decode cX5_get 1 = .ok (.ifCond .lt 21, 3) := by decide +kernel
theorem dX5_get_4 : decode cX5_get 4 = .ok (.iload_n 1, 1) := by decide +kernel
theorem dX5_get_5 : decode cX5_get 5 = .ok (.aload_n 0, 1) := by decide +kernel
theorem dX5_get_6 : decode cX5_get 6 = .ok (.getfield 13, 3) := by decide +kernel
theorem dX5_get_9 : decode cX5_get 9 = .ok (.arraylength, 1) := by decide +kernel
theorem dX5_get_10 : decode cX5_get 10 = .ok (.if_icmp .ge 12, 3) := by decide +kernel
theorem dX5_get_13 : decode cX5_get 13 = .ok (.aload_n 0, 1) := by decide +kernel
theorem dX5_get_14 : decode cX5_get 14 = .ok (.getfield 13, 3) := by decide +kernel
theorem dX5_get_17 : decode cX5_get 17 = .ok (.iload_n 1, 1) := by decide +kernel
theorem dX5_get_18 : decode cX5_get 18 = .ok (.iaload, 1) := by decide +kernel
theorem dX5_get_19 : decode cX5_get 19 = .ok (.goto 4, 3) := by decide +kernel
theorem dX5_get_22 : decode cX5_get 22 = .ok (.iconst 0, 1) := by decide +kernel
theorem dX5_get_23 : decode cX5_get 23 = .ok (.ireturn, 1) := by decide +kernel
theorem dX5_set_0 : decode cX5_set 0 = .ok (.iload_n 1, 1) := by decide +kernel
theorem dX5_set_1 : decode cX5_set 1 = .ok (.ifCond .lt 19, 3) := by decide +kernel
theorem dX5_set_4 : decode cX5_set 4 = .ok (.iload_n 1, 1) := by decide +kernel
theorem dX5_set_5 : decode cX5_set 5 = .ok (.aload_n 0, 1) := by decide +kernel
theorem dX5_set_6 : decode cX5_set 6 = .ok (.getfield 13, 3) := by decide +kernel
theorem dX5_set_9 : decode cX5_set 9 = .ok (.arraylength, 1) := by decide +kernel
theorem dX5_set_10 : decode cX5_set 10 = .ok (.if_icmp .ge 10, 3) := by decide +kernel
theorem dX5_set_13 : decode cX5_set 13 = .ok (.aload_n 0, 1) := by decide +kernel
theorem dX5_set_14 : decode cX5_set 14 = .ok (.getfield 13, 3) := by decide +kernel
theorem dX5_set_17 : decode cX5_set 17 = .ok (.iload_n 1, 1) := by decide +kernel
theorem dX5_set_18 : decode cX5_set 18 = .ok (.iload_n 2, 1) := by decide +kernel
theorem dX5_set_19 : decode cX5_set 19 = .ok (.iastore, 1) := by decide +kernel
theorem dX5_set_20 : decode cX5_set 20 = .ok (.return_, 1) := by decide +kernel
theorem dX5_add_0 : decode cX5_add 0 = .ok (.iload_n 1, 1) := by decide +kernel
theorem dX5_add_1 : decode cX5_add 1 = .ok (.ifCond .lt 22, 3) := by decide +kernel
theorem dX5_add_4 : decode cX5_add 4 = .ok (.iload_n 1, 1) := by decide +kernel
theorem dX5_add_5 : decode cX5_add 5 = .ok (.aload_n 0, 1) := by decide +kernel
theorem dX5_add_6 : decode cX5_add 6 = .ok (.getfield 13, 3) := by decide +kernel
theorem dX5_add_9 : decode cX5_add 9 = .ok (.arraylength, 1) := by decide +kernel
theorem dX5_add_10 : decode cX5_add 10 = .ok (.if_icmp .ge 13, 3) := by decide +kernel
theorem dX5_add_13 : decode cX5_add 13 = .ok (.aload_n 0, 1) := by decide +kernel
theorem dX5_add_14 : decode cX5_add 14 = .ok (.getfield 13, 3) := by decide +kernel
theorem dX5_add_17 : decode cX5_add 17 = .ok (.iload_n 1, 1) := by decide +kernel
theorem dX5_add_18 : decode cX5_add 18 = .ok (.dup2, 1) := by decide +kernel
theorem dX5_add_19 : decode cX5_add 19 = .ok (.iaload, 1) := by decide +kernel
theorem dX5_add_20 : decode cX5_add 20 = .ok (.iload_n 2, 1) := by decide +kernel
theorem dX5_add_21 : decode cX5_add 21 = .ok (.iadd, 1) := by decide +kernel
theorem dX5_add_22 : decode cX5_add 22 = .ok (.iastore, 1) := by decide +kernel
theorem dX5_add_23 : decode cX5_add 23 = .ok (.return_, 1) := by decide +kernel
theorem dX5_is_0 : decode cX5_is 0 = .ok (.iload_n 1, 1) := by decide +kernel
theorem dX5_is_1 : decode cX5_is 1 = .ok (.ifCond .lt 25, 3) := by decide +kernel
theorem dX5_is_4 : decode cX5_is 4 = .ok (.iload_n 1, 1) := by decide +kernel
theorem dX5_is_5 : decode cX5_is 5 = .ok (.aload_n 0, 1) := by decide +kernel
theorem dX5_is_6 : decode cX5_is 6 = .ok (.getfield 13, 3) := by decide +kernel
theorem dX5_is_9 : decode cX5_is 9 = .ok (.arraylength, 1) := by decide +kernel
theorem dX5_is_10 : decode cX5_is 10 = .ok (.if_icmp .ge 16, 3) := by decide +kernel
theorem dX5_is_13 : decode cX5_is 13 = .ok (.aload_n 0, 1) := by decide +kernel
theorem dX5_is_14 : decode cX5_is 14 = .ok (.getfield 13, 3) := by decide +kernel
theorem dX5_is_17 : decode cX5_is 17 = .ok (.iload_n 1, 1) := by decide +kernel
theorem dX5_is_18 : decode cX5_is 18 = .ok (.iaload, 1) := by decide +kernel
theorem dX5_is_19 : decode cX5_is 19 = .ok (.ifCond .eq 7, 3) := by decide +kernel
theorem dX5_is_22 : decode cX5_is 22 = .ok (.iconst 1, 1) := by decide +kernel
theorem dX5_is_23 : decode cX5_is 23 = .ok (.goto 4, 3) := by decide +kernel
theorem dX5_is_26 : decode cX5_is 26 = .ok (.iconst 0, 1) := by decide +kernel
theorem dX5_is_27 : decode cX5_is 27 = .ok (.ireturn, 1) := by decide +kernel
theorem dX5_put_0 : decode cX5_put 0 = .ok (.iload_n 1, 1) := by decide +kernel
theorem dX5_put_1 : decode cX5_put 1 = .ok (.ifCond .lt 27, 3) := by decide +kernel
theorem dX5_put_4 : decode cX5_put 4 = .ok (.iload_n 1, 1) := by decide +kernel
theorem dX5_put_5 : decode cX5_put 5 = .ok (.aload_n 0, 1) := by decide +kernel
theorem dX5_put_6 : decode cX5_put 6 = .ok (.getfield 13, 3) := by decide +kernel
theorem dX5_put_9 : decode cX5_put 9 = .ok (.arraylength, 1) := by decide +kernel
theorem dX5_put_10 : decode cX5_put 10 = .ok (.if_icmp .ge 18, 3) := by decide +kernel
theorem dX5_put_13 : decode cX5_put 13 = .ok (.aload_n 0, 1) := by decide +kernel
theorem dX5_put_14 : decode cX5_put 14 = .ok (.getfield 13, 3) := by decide +kernel
theorem dX5_put_17 : decode cX5_put 17 = .ok (.iload_n 1, 1) := by decide +kernel
theorem dX5_put_18 : decode cX5_put 18 = .ok (.iload_n 2, 1) := by decide +kernel
theorem dX5_put_19 : decode cX5_put 19 = .ok (.ifCond .eq 7, 3) := by decide +kernel
theorem dX5_put_22 : decode cX5_put 22 = .ok (.iconst 1, 1) := by decide +kernel
theorem dX5_put_23 : decode cX5_put 23 = .ok (.goto 4, 3) := by decide +kernel
theorem dX5_put_26 : decode cX5_put 26 = .ok (.iconst 0, 1) := by decide +kernel
theorem dX5_put_27 : decode cX5_put 27 = .ok (.iastore, 1) := by decide +kernel
theorem dX5_put_28 : decode cX5_put 28 = .ok (.return_, 1) := by decide +kernel
set_option maxRecDepth 20000 in
theorem ggX6_init_X5_init : GoodIn wsX6_init wsX5_init := goodIn_r _ [17, 18, 2, 3, 19, 20, 21, 22, 23, 24, 25] (by decide +kernel) (by decide +kernel)
set_option maxRecDepth 20000 in
theorem gX6_init_X5_init : GoodIn wsX6_init (wsX5_init) := ggX6_init_X5_init
theorem dX6_init_0 : decode cX6_init 0 = .ok (.aload_n 0, 1) := by decide +kernel
theorem dX6_init_1 : decode cX6_init 1 = .ok (.invokespecial 7, 3) := by decide +kernel
theorem dX6_init_4 : decode cX6_init 4 = .ok (.aload_n 0, 1) := by decide +kernel
theorem dX6_init_5 : decode cX6_init 5 = .ok (.new 13, 3) := by decide +kernel
theorem dX6_init_8 : decode cX6_init 8 = .ok (.dup, 1) := by decide +kernel
theorem dX6_init_9 : decode cX6_init 9 = .ok (.iconst 4, 1) := by decide +kernel
theorem dX6_init_10 : decode cX6_init 10 = .ok (.invokespecial 15, 3) := by decide +kernel
theorem dX6_init_13 : decode cX6_init 13 = .ok (.putfield 18, 3) := by decide +kernel
theorem dX6_init_16 : decode cX6_init 16 = .ok (.aload_n 0, 1) := by decide +kernel
theorem dX6_init_17 : decode cX6_init 17 = .ok (.new 13, 3) := by decide +kernel
theorem dX6_init_20 : decode cX6_init 20 = .ok (.dup, 1) := by decide +kernel
theorem dX6_init_21 : decode cX6_init 21 = .ok (.sipush 1920, 3) := by decide +kernel
theorem dX6_init_24 : decode cX6_init 24 = .ok (.invokespecial 15, 3) := by decide +kernel
theorem dX6_init_27 : decode cX6_init 27 = .ok (.putfield 22, 3) := by decide +kernel
theorem dX6_init_30 : decode cX6_init 30 = .ok (.aload_n 0, 1) := by decide +kernel
theorem dX6_init_31 : decode cX6_init 31 = .ok (.new 13, 3) := by decide +kernel
theorem dX6_init_34 : decode cX6_init 34 = .ok (.dup, 1) := by decide +kernel
theorem dX6_init_35 : decode cX6_init 35 = .ok (.bipush 24, 2) := by decide +kernel
theorem dX6_init_37 : decode cX6_init 37 = .ok (.invokespecial 15, 3) := by decide +kernel
theorem dX6_init_40 : decode cX6_init 40 = .ok (.putfield 25, 3) := by decide +kernel
theorem dX6_init_43 : decode cX6_init 43 = .ok (.aload_n 0, 1) := by decide +kernel
theorem dX6_init_44 : decode cX6_init 44 = .ok (.new 13, 3) := by decide +kernel
theorem dX6_init_47 : decode cX6_init 47 = .ok (.dup, 1) := by decide +kernel
theorem dX6_init_48 : decode cX6_init 48 = .ok (.bipush 24, 2) := by decide +kernel
theorem dX6_init_50 : decode cX6_init 50 = .ok (.invokespecial 15, 3) := by decide +kernel
theorem dX6_init_53 : decode cX6_init 53 = .ok (.putfield 28, 3) := by decide +kernel
theorem dX6_init_56 : decode cX6_init 56 = .ok (.aload_n 0, 1) := by decide +kernel
theorem dX6_init_57 : decode cX6_init 57 = .ok (.new 13, 3) := by decide +kernel
theorem dX6_init_60 : decode cX6_init 60 = .ok (.dup, 1) := by decide +kernel
theorem dX6_init_61 : decode cX6_init 61 = .ok (.bipush 24, 2) := by decide +kernel
theorem dX6_init_63 : decode cX6_init 63 = .ok (.invokespecial 15, 3) := by decide +kernel
theorem dX6_init_66 : decode cX6_init 66 = .ok (.putfield 31, 3) := by decide +kernel
theorem dX6_init_69 : decode cX6_init 69 = .ok (.aload_n 0, 1) := by decide +kernel
theorem dX6_init_70 : decode cX6_init 70 = .ok (.new 13, 3) := by decide +kernel
theorem dX6_init_73 : decode cX6_init 73 = .ok (.dup, 1) := by decide +kernel
theorem dX6_init_74 : decode cX6_init 74 = .ok (.iconst 5, 1) := by decide +kernel
theorem dX6_init_75 : decode cX6_init 75 = .ok (.invokespecial 15, 3) := by decide +kernel
theorem dX6_init_78 : decode cX6_init 78 = .ok (.putfield 34, 3) := by decide +kernel
theorem dX6_init_81 : decode cX6_init 81 = .ok (.aload_n 0, 1) := by decide +kernel
theorem dX6_init_82 : decode cX6_init 82 = .ok (.new 13, 3) := by decide +kernel
theorem dX6_init_85 : decode cX6_init 85 = .ok (.dup, 1) := by decide +kernel
theorem dX6_init_86 : decode cX6_init 86 = .ok (.iconst 5, 1) := by decide +kernel
theorem dX6_init_87 : decode cX6_init 87 = .ok (.invokespecial 15, 3) := by decide +kernel
theorem dX6_init_90 : decode cX6_init 90 = .ok (.putfield 37, 3) := by decide +kernel
theorem dX6_init_93 : decode cX6_init 93 = .ok (.aload_n 0, 1) := by decide +kernel
theorem dX6_init_94 : decode cX6_init 94 = .ok (.new 13, 3) := by decide +kernel
theorem dX6_init_97 : decode cX6_init 97 = .ok (.dup, 1) := by decide +kernel
theorem dX6_init_98 : decode cX6_init 98 = .ok (.iconst 5, 1) := by decide +kernel
theorem dX6_init_99 : decode cX6_init 99 = .ok (.invokespecial 15, 3) := by decide +kernel
theorem dX6_init_102 : decode cX6_init 102 = .ok (.putfield 40, 3) := by decide +kernel
theorem dX6_init_105 : decode cX6_init 105 = .ok (.return_, 1) := by decide +kernel
set_option maxRecDepth 20000 in
theorem ggX6_has_X5_get : GoodIn wsX6_has wsX5_get := goodIn_r _ [6, 7, 16] (by decide +kernel) (by decide +kernel)
set_option maxRecDepth 20000 in
theorem gX6_has_X5_get : GoodIn wsX6_has (wsV RX6 43 RX5 yX5_get wsX5_get) := goodIn_app (goodIn_of _ (by decide +kernel)) ggX6_has_X5_get
theorem dX6_has_0 : decode cX6_has 0 = .ok (.iload_n 2, 1) := by decide +kernel
theorem dX6_has_1 : decode cX6_has 1 = .ok (.ifCond .lt 19, 3) := by decide +kernel
theorem dX6_has_4 : decode cX6_has 4 = .ok (.iload_n 2, 1) := by decide +kernel
theorem dX6_has_5 : decode cX6_has 5 = .ok (.aload_n 0, 1) := by decide +kernel
theorem dX6_has_6 : decode cX6_has 6 = .ok (.getfield 18, 3) := by decide +kernel
theorem dX6_has_9 : decode cX6_has 9 = .ok (.iload_n 1, 1) := by decide +kernel
theorem dX6_has_10 : decode cX6_has 10 = .ok (.invokevirtual 43, 3) := by decide +kernel
theorem dX6_has_13 : decode cX6_has 13 = .ok (.if_icmp .ge 7, 3) := by decide +kernel
theorem dX6_has_16 : decode cX6_has 16 = .ok (.iconst 1, 1) := by decide +kernel
theorem dX6_has_17 : decode cX6_has 17 = .ok (.goto 4, 3) := by decide +kernel
theorem dX6_has_20 : decode cX6_has 20 = .ok (.iconst 0, 1) := by decide +kernel
theorem dX6_has_21 : decode cX6_has 21 = .ok (.ireturn, 1) := by decide +kernel
set_option maxRecDepth 20000 in
theorem ggX6_holdsFor_X5_get : GoodIn wsX6_holdsFor wsX5_get := goodIn_r _ [6, 7, 16] (by decide +kernel) (by decide +kernel)
set_option maxRecDepth 20000 in
theorem gX6_holdsFor_X5_get : GoodIn wsX6_holdsFor (wsV RX6 43 RX5 yX5_get wsX5_get) := goodIn_app (goodIn_of _ (by decide +kernel)) ggX6_holdsFor_X5_get
theorem dX6_holdsFor_0 : decode cX6_holdsFor 0 = .ok (.aload_n 0, 1) := by decide +kernel
theorem dX6_holdsFor_1 : decode cX6_holdsFor 1 = .ok (.getfield 18, 3) := by decide +kernel
theorem dX6_holdsFor_4 : decode cX6_holdsFor 4 = .ok (.iload_n 1, 1) := by decide +kernel
theorem dX6_holdsFor_5 : decode cX6_holdsFor 5 = .ok (.invokevirtual 43, 3) := by decide +kernel
theorem dX6_holdsFor_8 : decode cX6_holdsFor 8 = .ok (.ifCond .le 7, 3) := by decide +kernel
theorem dX6_holdsFor_11 : decode cX6_holdsFor 11 = .ok (.iconst 1, 1) := by decide +kernel
theorem dX6_holdsFor_12 : decode cX6_holdsFor 12 = .ok (.goto 4, 3) := by decide +kernel
theorem dX6_holdsFor_15 : decode cX6_holdsFor 15 = .ok (.iconst 0, 1) := by decide +kernel
theorem dX6_holdsFor_16 : decode cX6_holdsFor 16 = .ok (.ireturn, 1) := by decide +kernel
set_option maxRecDepth 20000 in
theorem ggX6_enter_X5_get : GoodIn wsX6_enter wsX5_get := goodIn_r _ [14, 15, 38] (by decide +kernel) (by decide +kernel)
set_option maxRecDepth 20000 in
theorem gX6_enter_X5_get : GoodIn wsX6_enter (wsV RX6 43 RX5 yX5_get wsX5_get) := goodIn_app (goodIn_of _ (by decide +kernel)) ggX6_enter_X5_get
set_option maxRecDepth 20000 in
theorem ggX6_enter_X5_set : GoodIn wsX6_enter wsX5_set := goodIn_r _ [19, 15, 38] (by decide +kernel) (by decide +kernel)
set_option maxRecDepth 20000 in
theorem gX6_enter_X5_set : GoodIn wsX6_enter (wsV RX6 52 RX5 yX5_set wsX5_set) := goodIn_app (goodIn_of _ (by decide +kernel)) ggX6_enter_X5_set
set_option maxRecDepth 20000 in
theorem ggX6_enter_X5_add : GoodIn wsX6_enter wsX5_add := goodIn_r _ [23, 15, 38] (by decide +kernel) (by decide +kernel)
set_option maxRecDepth 20000 in
theorem gX6_enter_X5_add : GoodIn wsX6_enter (wsV RX6 61 RX5 yX5_add wsX5_add) := goodIn_app (goodIn_of _ (by decide +kernel)) ggX6_enter_X5_add
theorem dX6_enter_0 : decode cX6_enter 0 = .ok (.aload_n 0, 1) := by decide +kernel
theorem dX6_enter_1 : decode cX6_enter 1 = .ok (.getfield 18, 3) := by decide +kernel
theorem dX6_enter_4 : decode cX6_enter 4 = .ok (.iload_n 1, 1) := by decide +kernel
theorem dX6_enter_5 : decode cX6_enter 5 = .ok (.invokevirtual 43, 3) := by decide +kernel
theorem dX6_enter_8 : decode cX6_enter 8 = .ok (.istore_n 3, 1) := by decide +kernel
theorem dX6_enter_9 : decode cX6_enter 9 = .ok (.iload_n 1, 1) := by decide +kernel
theorem dX6_enter_10 : decode cX6_enter 10 = .ok (.bipush 6, 2) := by decide +kernel
theorem dX6_enter_12 : decode cX6_enter 12 = .ok (.imul, 1) := by decide +kernel
theorem dX6_enter_13 : decode cX6_enter 13 = .ok (.iload_n 3, 1) := by decide +kernel
theorem dX6_enter_14 : decode cX6_enter 14 = .ok (.iadd, 1) := by decide +kernel
theorem dX6_enter_15 : decode cX6_enter 15 = .ok (.istore 4, 2) := by decide +kernel
theorem dX6_enter_17 : decode cX6_enter 17 = .ok (.iconst 0, 1) := by decide +kernel
theorem dX6_enter_18 : decode cX6_enter 18 = .ok (.istore 5, 2) := by decide +kernel
theorem dX6_enter_20 : decode cX6_enter 20 = .ok (.iload 5, 2) := by decide +kernel
theorem dX6_enter_22 : decode cX6_enter 22 = .ok (.aload_n 2, 1) := by decide +kernel
theorem dX6_enter_23 : decode cX6_enter 23 = .ok (.getfield 47, 3) := by decide +kernel
theorem dX6_enter_26 : decode cX6_enter 26 = .ok (.if_icmp .ge 33, 3) := by decide +kernel
theorem dX6_enter_29 : decode cX6_enter 29 = .ok (.aload_n 0, 1) := by decide +kernel
theorem dX6_enter_30 : decode cX6_enter 30 = .ok (.getfield 22, 3) := by decide +kernel
theorem dX6_enter_33 : decode cX6_enter 33 = .ok (.iload 4, 2) := by decide +kernel
theorem dX6_enter_35 : decode cX6_enter 35 = .ok (.bipush 80, 2) := by decide +kernel
theorem dX6_enter_37 : decode cX6_enter 37 = .ok (.imul, 1) := by decide +kernel
theorem dX6_enter_38 : decode cX6_enter 38 = .ok (.iload 5, 2) := by decide +kernel
theorem dX6_enter_40 : decode cX6_enter 40 = .ok (.iadd, 1) := by decide +kernel
theorem dX6_enter_41 : decode cX6_enter 41 = .ok (.aload_n 2, 1) := by decide +kernel
theorem dX6_enter_42 : decode cX6_enter 42 = .ok (.getfield 51, 3) := by decide +kernel
theorem dX6_enter_45 : decode cX6_enter 45 = .ok (.iload 5, 2) := by decide +kernel
theorem dX6_enter_47 : decode cX6_enter 47 = .ok (.invokevirtual 43, 3) := by decide +kernel
theorem dX6_enter_50 : decode cX6_enter 50 = .ok (.invokevirtual 52, 3) := by decide +kernel
theorem dX6_enter_53 : decode cX6_enter 53 = .ok (.iinc 5 1, 3) := by decide +kernel
theorem dX6_enter_56 : decode cX6_enter 56 = .ok (.goto (-36), 3) := by decide +kernel
theorem dX6_enter_59 : decode cX6_enter 59 = .ok (.aload_n 0, 1) := by decide +kernel
theorem dX6_enter_60 : decode cX6_enter 60 = .ok (.getfield 25, 3) := by decide +kernel
theorem dX6_enter_63 : decode cX6_enter 63 = .ok (.iload 4, 2) := by decide +kernel
theorem dX6_enter_65 : decode cX6_enter 65 = .ok (.aload_n 2, 1) := by decide +kernel
theorem dX6_enter_66 : decode cX6_enter 66 = .ok (.getfield 47, 3) := by decide +kernel
theorem dX6_enter_69 : decode cX6_enter 69 = .ok (.invokevirtual 52, 3) := by decide +kernel
theorem dX6_enter_72 : decode cX6_enter 72 = .ok (.aload_n 0, 1) := by decide +kernel
theorem dX6_enter_73 : decode cX6_enter 73 = .ok (.getfield 28, 3) := by decide +kernel
theorem dX6_enter_76 : decode cX6_enter 76 = .ok (.iload 4, 2) := by decide +kernel
theorem dX6_enter_78 : decode cX6_enter 78 = .ok (.aload_n 2, 1) := by decide +kernel
theorem dX6_enter_79 : decode cX6_enter 79 = .ok (.getfield 56, 3) := by decide +kernel
theorem dX6_enter_82 : decode cX6_enter 82 = .ok (.invokevirtual 52, 3) := by decide +kernel
theorem dX6_enter_85 : decode cX6_enter 85 = .ok (.aload_n 0, 1) := by decide +kernel
theorem dX6_enter_86 : decode cX6_enter 86 = .ok (.getfield 31, 3) := by decide +kernel
theorem dX6_enter_89 : decode cX6_enter 89 = .ok (.iload 4, 2) := by decide +kernel
theorem dX6_enter_91 : decode cX6_enter 91 = .ok (.aload_n 2, 1) := by decide +kernel
theorem dX6_enter_92 : decode cX6_enter 92 = .ok (.getfield 58, 3) := by decide +kernel
theorem dX6_enter_95 : decode cX6_enter 95 = .ok (.iconst (-1), 1) := by decide +kernel
theorem dX6_enter_96 : decode cX6_enter 96 = .ok (.if_icmp .ne 8, 3) := by decide +kernel
theorem dX6_enter_99 : decode cX6_enter 99 = .ok (.bipush 99, 2) := by decide +kernel
theorem dX6_enter_101 : decode cX6_enter 101 = .ok (.goto 7, 3) := by decide +kernel
theorem dX6_enter_104 : decode cX6_enter 104 = .ok (.aload_n 2, 1) := by decide +kernel
theorem dX6_enter_105 : decode cX6_enter 105 = .ok (.getfield 58, 3) := by decide +kernel
theorem dX6_enter_108 : decode cX6_enter 108 = .ok (.invokevirtual 52, 3) := by decide +kernel
theorem dX6_enter_111 : decode cX6_enter 111 = .ok (.aload_n 0, 1) := by decide +kernel
theorem dX6_enter_112 : decode cX6_enter 112 = .ok (.getfield 18, 3) := by decide +kernel
theorem dX6_enter_115 : decode cX6_enter 115 = .ok (.iload_n 1, 1) := by decide +kernel
theorem dX6_enter_116 : decode cX6_enter 116 = .ok (.iconst 1, 1) := by decide +kernel
theorem dX6_enter_117 : decode cX6_enter 117 = .ok (.invokevirtual 61, 3) := by decide +kernel
theorem dX6_enter_120 : decode cX6_enter 120 = .ok (.iload_n 3, 1) := by decide +kernel
theorem dX6_enter_121 : decode cX6_enter 121 = .ok (.ireturn, 1) := by decide +kernel
set_option maxRecDepth 20000 in
theorem ggX6_signAt_X5_get : GoodIn wsX6_signAt wsX5_get := goodIn_r _ [7, 8, 17] (by decide +kernel) (by decide +kernel)
set_option maxRecDepth 20000 in
theorem gX6_signAt_X5_get : GoodIn wsX6_signAt (wsV RX6 43 RX5 yX5_get wsX5_get) := goodIn_app (goodIn_of _ (by decide +kernel)) ggX6_signAt_X5_get
theorem dX6_signAt_0 : decode cX6_signAt 0 = .ok (.iload_n 1, 1) := by decide +kernel
theorem dX6_signAt_1 : decode cX6_signAt 1 = .ok (.bipush 6, 2) := by decide +kernel
theorem dX6_signAt_3 : decode cX6_signAt 3 = .ok (.imul, 1) := by decide +kernel
theorem dX6_signAt_4 : decode cX6_signAt 4 = .ok (.iload_n 2, 1) := by decide +kernel
theorem dX6_signAt_5 : decode cX6_signAt 5 = .ok (.iadd, 1) := by decide +kernel
theorem dX6_signAt_6 : decode cX6_signAt 6 = .ok (.istore 4, 2) := by decide +kernel
theorem dX6_signAt_8 : decode cX6_signAt 8 = .ok (.iload_n 3, 1) := by decide +kernel
theorem dX6_signAt_9 : decode cX6_signAt 9 = .ok (.aload_n 0, 1) := by decide +kernel
theorem dX6_signAt_10 : decode cX6_signAt 10 = .ok (.getfield 25, 3) := by decide +kernel
theorem dX6_signAt_13 : decode cX6_signAt 13 = .ok (.iload 4, 2) := by decide +kernel
theorem dX6_signAt_15 : decode cX6_signAt 15 = .ok (.invokevirtual 43, 3) := by decide +kernel
theorem dX6_signAt_18 : decode cX6_signAt 18 = .ok (.if_icmp .ge 20, 3) := by decide +kernel
theorem dX6_signAt_21 : decode cX6_signAt 21 = .ok (.aload_n 0, 1) := by decide +kernel
theorem dX6_signAt_22 : decode cX6_signAt 22 = .ok (.getfield 22, 3) := by decide +kernel
theorem dX6_signAt_25 : decode cX6_signAt 25 = .ok (.iload 4, 2) := by decide +kernel
theorem dX6_signAt_27 : decode cX6_signAt 27 = .ok (.bipush 80, 2) := by decide +kernel
theorem dX6_signAt_29 : decode cX6_signAt 29 = .ok (.imul, 1) := by decide +kernel
theorem dX6_signAt_30 : decode cX6_signAt 30 = .ok (.iload_n 3, 1) := by decide +kernel
theorem dX6_signAt_31 : decode cX6_signAt 31 = .ok (.iadd, 1) := by decide +kernel
theorem dX6_signAt_32 : decode cX6_signAt 32 = .ok (.invokevirtual 43, 3) := by decide +kernel
theorem dX6_signAt_35 : decode cX6_signAt 35 = .ok (.goto 4, 3) := by decide +kernel
theorem dX6_signAt_38 : decode cX6_signAt 38 = .ok (.iconst 0, 1) := by decide +kernel
theorem dX6_signAt_39 : decode cX6_signAt 39 = .ok (.ireturn, 1) := by decide +kernel
set_option maxRecDepth 20000 in
theorem ggX6_lettersOfLatest_X5_get : GoodIn wsX6_lettersOfLatest wsX5_get := goodIn_r _ [7, 8, 17] (by decide +kernel) (by decide +kernel)
set_option maxRecDepth 20000 in
theorem gX6_lettersOfLatest_X5_get : GoodIn wsX6_lettersOfLatest (wsV RX6 43 RX5 yX5_get wsX5_get) := goodIn_app (goodIn_of _ (by decide +kernel)) ggX6_lettersOfLatest_X5_get
theorem dX6_lettersOfLatest_0 : decode cX6_lettersOfLatest 0 = .ok (.aload_n 0, 1) := by decide +kernel
theorem dX6_lettersOfLatest_1 : decode cX6_lettersOfLatest 1 = .ok (.getfield 28, 3) := by decide +kernel
theorem dX6_lettersOfLatest_4 : decode cX6_lettersOfLatest 4 = .ok (.iload_n 1, 1) := by decide +kernel
theorem dX6_lettersOfLatest_5 : decode cX6_lettersOfLatest 5 = .ok (.bipush 6, 2) := by decide +kernel
theorem dX6_lettersOfLatest_7 : decode cX6_lettersOfLatest 7 = .ok (.imul, 1) := by decide +kernel
theorem dX6_lettersOfLatest_8 : decode cX6_lettersOfLatest 8 = .ok (.aload_n 0, 1) := by decide +kernel
theorem dX6_lettersOfLatest_9 : decode cX6_lettersOfLatest 9 = .ok (.getfield 18, 3) := by decide +kernel
theorem dX6_lettersOfLatest_12 : decode cX6_lettersOfLatest 12 = .ok (.iload_n 1, 1) := by decide +kernel
theorem dX6_lettersOfLatest_13 : decode cX6_lettersOfLatest 13 = .ok (.invokevirtual 43, 3) := by decide +kernel
theorem dX6_lettersOfLatest_16 : decode cX6_lettersOfLatest 16 = .ok (.iadd, 1) := by decide +kernel
theorem dX6_lettersOfLatest_17 : decode cX6_lettersOfLatest 17 = .ok (.iconst 1, 1) := by decide +kernel
theorem dX6_lettersOfLatest_18 : decode cX6_lettersOfLatest 18 = .ok (.isub, 1) := by decide +kernel
theorem dX6_lettersOfLatest_19 : decode cX6_lettersOfLatest 19 = .ok (.invokevirtual 43, 3) := by decide +kernel
theorem dX6_lettersOfLatest_22 : decode cX6_lettersOfLatest 22 = .ok (.ireturn, 1) := by decide +kernel
set_option maxRecDepth 20000 in
theorem ggX6_markByLatest_X5_get : GoodIn wsX6_markByLatest wsX5_get := goodIn_r _ [6, 7, 50] (by decide +kernel) (by decide +kernel)
set_option maxRecDepth 20000 in
theorem gX6_markByLatest_X5_get : GoodIn wsX6_markByLatest (wsV RX6 43 RX5 yX5_get wsX5_get) := goodIn_app (goodIn_of _ (by decide +kernel)) ggX6_markByLatest_X5_get
set_option maxRecDepth 20000 in
theorem ggX6_markByLatest_X6_markBy : GoodIn wsX6_markByLatest wsX6_markBy := goodIn_r _ [12, 13, 14, 15, 16, 17, 18, 19, 20, 21, 22, 2, 3, 4, 5, 6, 7, 23, 24, 25, 11, 26, 27, 28, 29, 30, 31, 32, 33, 34, 35, 36, 37, 38, 39, 40, 41, 42, 43, 44, 45, 46, 47, 48, 49, 50] (by decide +kernel) (by decide +kernel)
set_option maxRecDepth 20000 in
theorem gX6_markByLatest_X6_markBy : GoodIn wsX6_markByLatest (wsV RX6 64 RX6 yX6_markBy wsX6_markBy) := goodIn_app (goodIn_of _ (by decide +kernel)) ggX6_markByLatest_X6_markBy
theorem dX6_markByLatest_0 : decode cX6_markByLatest 0 = .ok (.aload_n 0, 1) := by decide +kernel
theorem dX6_markByLatest_1 : decode cX6_markByLatest 1 = .ok (.iload_n 1, 1) := by decide +kernel
theorem dX6_markByLatest_2 : decode cX6_markByLatest 2 = .ok (.aload_n 0, 1) := by decide +kernel
theorem dX6_markByLatest_3 : decode cX6_markByLatest 3 = .ok (.getfield 18, 3) := by decide +kernel
theorem dX6_markByLatest_6 : decode cX6_markByLatest 6 = .ok (.iload_n 1, 1) := by decide +kernel
theorem dX6_markByLatest_7 : decode cX6_markByLatest 7 = .ok (.invokevirtual 43, 3) := by decide +kernel
theorem dX6_markByLatest_10 : decode cX6_markByLatest 10 = .ok (.iconst 1, 1) := by decide +kernel
theorem dX6_markByLatest_11 : decode cX6_markByLatest 11 = .ok (.isub, 1) := by decide +kernel
theorem dX6_markByLatest_12 : decode cX6_markByLatest 12 = .ok (.iload_n 2, 1) := by decide +kernel
theorem dX6_markByLatest_13 : decode cX6_markByLatest 13 = .ok (.invokevirtual 64, 3) := by decide +kernel
theorem dX6_markByLatest_16 : decode cX6_markByLatest 16 = .ok (.ireturn, 1) := by decide +kernel
set_option maxRecDepth 20000 in
theorem ggX6_markBy_X5_get : GoodIn wsX6_markBy wsX5_get := goodIn_r _ [15, 16, 45] (by decide +kernel) (by decide +kernel)
set_option maxRecDepth 20000 in
theorem gX6_markBy_X5_get : GoodIn wsX6_markBy (wsV RX6 43 RX5 yX5_get wsX5_get) := goodIn_app (goodIn_of _ (by decide +kernel)) ggX6_markBy_X5_get
set_option maxRecDepth 20000 in
theorem ggX6_markBy_X6_begin : GoodIn wsX6_markBy wsX6_begin := goodIn_r _ [21, 3, 5, 4, 22, 23, 24, 14, 25, 16, 37, 38, 39, 40, 41, 42, 43, 44, 45] (by decide +kernel) (by decide +kernel)
set_option maxRecDepth 20000 in
theorem gX6_markBy_X6_begin : GoodIn wsX6_markBy (wsV RX6 68 RX6 yX6_begin wsX6_begin) := goodIn_app (goodIn_of _ (by decide +kernel)) ggX6_markBy_X6_begin
set_option maxRecDepth 20000 in
theorem ggX6_markBy_X5_add : GoodIn wsX6_markBy wsX5_add := goodIn_r _ [29, 16, 45] (by decide +kernel) (by decide +kernel)
set_option maxRecDepth 20000 in
theorem gX6_markBy_X5_add : GoodIn wsX6_markBy (wsV RX6 61 RX5 yX5_add wsX5_add) := goodIn_app (goodIn_of _ (by decide +kernel)) ggX6_markBy_X5_add
set_option maxRecDepth 20000 in
theorem ggX6_markBy_X6_endSum : GoodIn wsX6_markBy wsX6_endSum := goodIn_r _ [33, 5, 3, 34, 35, 9, 36, 11, 12, 13, 14, 15, 16, 22, 23, 24, 25, 37, 38, 39, 40, 41, 42, 43, 44, 45] (by decide +kernel) (by decide +kernel)
set_option maxRecDepth 20000 in
theorem gX6_markBy_X6_endSum : GoodIn wsX6_markBy (wsV RX6 71 RX6 yX6_endSum wsX6_endSum) := goodIn_app (goodIn_of _ (by decide +kernel)) ggX6_markBy_X6_endSum
theorem dX6_markBy_0 : decode cX6_markBy 0 = .ok (.iload_n 1, 1) := by decide +kernel
theorem dX6_markBy_1 : decode cX6_markBy 1 = .ok (.bipush 6, 2) := by decide +kernel
theorem dX6_markBy_3 : decode cX6_markBy 3 = .ok (.imul, 1) := by decide +kernel
theorem dX6_markBy_4 : decode cX6_markBy 4 = .ok (.iload_n 2, 1) := by decide +kernel
theorem dX6_markBy_5 : decode cX6_markBy 5 = .ok (.iadd, 1) := by decide +kernel
theorem dX6_markBy_6 : decode cX6_markBy 6 = .ok (.istore 4, 2) := by decide +kernel
theorem dX6_markBy_8 : decode cX6_markBy 8 = .ok (.aload_n 0, 1) := by decide +kernel
theorem dX6_markBy_9 : decode cX6_markBy 9 = .ok (.getfield 25, 3) := by decide +kernel
theorem dX6_markBy_12 : decode cX6_markBy 12 = .ok (.iload 4, 2) := by decide +kernel
theorem dX6_markBy_14 : decode cX6_markBy 14 = .ok (.invokevirtual 43, 3) := by decide +kernel
theorem dX6_markBy_17 : decode cX6_markBy 17 = .ok (.istore 5, 2) := by decide +kernel
theorem dX6_markBy_19 : decode cX6_markBy 19 = .ok (.iconst 0, 1) := by decide +kernel
theorem dX6_markBy_20 : decode cX6_markBy 20 = .ok (.istore 6, 2) := by decide +kernel
theorem dX6_markBy_22 : decode cX6_markBy 22 = .ok (.iconst 1, 1) := by decide +kernel
theorem dX6_markBy_23 : decode cX6_markBy 23 = .ok (.istore 7, 2) := by decide +kernel
theorem dX6_markBy_25 : decode cX6_markBy 25 = .ok (.aload_n 0, 1) := by decide +kernel
theorem dX6_markBy_26 : decode cX6_markBy 26 = .ok (.iload 6, 2) := by decide +kernel
theorem dX6_markBy_28 : decode cX6_markBy 28 = .ok (.iload 7, 2) := by decide +kernel
theorem dX6_markBy_30 : decode cX6_markBy 30 = .ok (.invokevirtual 68, 3) := by decide +kernel
theorem dX6_markBy_33 : decode cX6_markBy 33 = .ok (.iconst 0, 1) := by decide +kernel
theorem dX6_markBy_34 : decode cX6_markBy 34 = .ok (.istore 8, 2) := by decide +kernel
theorem dX6_markBy_36 : decode cX6_markBy 36 = .ok (.iload 8, 2) := by decide +kernel
theorem dX6_markBy_38 : decode cX6_markBy 38 = .ok (.iload 5, 2) := by decide +kernel
theorem dX6_markBy_40 : decode cX6_markBy 40 = .ok (.if_icmp .ge 170, 3) := by decide +kernel
theorem dX6_markBy_43 : decode cX6_markBy 43 = .ok (.aload_n 0, 1) := by decide +kernel
theorem dX6_markBy_44 : decode cX6_markBy 44 = .ok (.getfield 22, 3) := by decide +kernel
theorem dX6_markBy_47 : decode cX6_markBy 47 = .ok (.iload 4, 2) := by decide +kernel
theorem dX6_markBy_49 : decode cX6_markBy 49 = .ok (.bipush 80, 2) := by decide +kernel
theorem dX6_markBy_51 : decode cX6_markBy 51 = .ok (.imul, 1) := by decide +kernel
theorem dX6_markBy_52 : decode cX6_markBy 52 = .ok (.iload 8, 2) := by decide +kernel
theorem dX6_markBy_54 : decode cX6_markBy 54 = .ok (.iadd, 1) := by decide +kernel
theorem dX6_markBy_55 : decode cX6_markBy 55 = .ok (.invokevirtual 43, 3) := by decide +kernel
theorem dX6_markBy_58 : decode cX6_markBy 58 = .ok (.istore 9, 2) := by decide +kernel
theorem dX6_markBy_60 : decode cX6_markBy 60 = .ok (.iload 9, 2) := by decide +kernel
theorem dX6_markBy_62 : decode cX6_markBy 62 = .ok (.bipush 60, 2) := by decide +kernel
theorem dX6_markBy_64 : decode cX6_markBy 64 = .ok (.if_icmp .ne 6, 3) := by decide +kernel
theorem dX6_markBy_67 : decode cX6_markBy 67 = .ok (.goto 143, 3) := by decide +kernel
theorem dX6_markBy_70 : decode cX6_markBy 70 = .ok (.iload 9, 2) := by decide +kernel
theorem dX6_markBy_72 : decode cX6_markBy 72 = .ok (.bipush 49, 2) := by decide +kernel
theorem dX6_markBy_74 : decode cX6_markBy 74 = .ok (.if_icmp .lt 17, 3) := by decide +kernel
theorem dX6_markBy_77 : decode cX6_markBy 77 = .ok (.iload 9, 2) := by decide +kernel
theorem dX6_markBy_79 : decode cX6_markBy 79 = .ok (.bipush 57, 2) := by decide +kernel
theorem dX6_markBy_81 : decode cX6_markBy 81 = .ok (.if_icmp .gt 10, 3) := by decide +kernel
theorem dX6_markBy_84 : decode cX6_markBy 84 = .ok (.iload 9, 2) := by decide +kernel
theorem dX6_markBy_86 : decode cX6_markBy 86 = .ok (.bipush 48, 2) := by decide +kernel
theorem dX6_markBy_88 : decode cX6_markBy 88 = .ok (.isub, 1) := by decide +kernel
theorem dX6_markBy_89 : decode cX6_markBy 89 = .ok (.istore 7, 2) := by decide +kernel
theorem dX6_markBy_91 : decode cX6_markBy 91 = .ok (.iload 9, 2) := by decide +kernel
theorem dX6_markBy_93 : decode cX6_markBy 93 = .ok (.bipush 97, 2) := by decide +kernel
theorem dX6_markBy_95 : decode cX6_markBy 95 = .ok (.if_icmp .lt 31, 3) := by decide +kernel
theorem dX6_markBy_98 : decode cX6_markBy 98 = .ok (.iload 9, 2) := by decide +kernel
theorem dX6_markBy_100 : decode cX6_markBy 100 = .ok (.bipush 104, 2) := by decide +kernel
theorem dX6_markBy_102 : decode cX6_markBy 102 = .ok (.if_icmp .gt 24, 3) := by decide +kernel
theorem dX6_markBy_105 : decode cX6_markBy 105 = .ok (.aload_n 0, 1) := by decide +kernel
theorem dX6_markBy_106 : decode cX6_markBy 106 = .ok (.getfield 34, 3) := by decide +kernel
theorem dX6_markBy_109 : decode cX6_markBy 109 = .ok (.iload 6, 2) := by decide +kernel
theorem dX6_markBy_111 : decode cX6_markBy 111 = .ok (.iload 7, 2) := by decide +kernel
theorem dX6_markBy_113 : decode cX6_markBy 113 = .ok (.iload_n 3, 1) := by decide +kernel
theorem dX6_markBy_114 : decode cX6_markBy 114 = .ok (.iload 9, 2) := by decide +kernel
theorem dX6_markBy_116 : decode cX6_markBy 116 = .ok (.bipush 97, 2) := by decide +kernel
theorem dX6_markBy_118 : decode cX6_markBy 118 = .ok (.isub, 1) := by decide +kernel
theorem dX6_markBy_119 : decode cX6_markBy 119 = .ok (.ishr, 1) := by decide +kernel
theorem dX6_markBy_120 : decode cX6_markBy 120 = .ok (.iconst 1, 1) := by decide +kernel
theorem dX6_markBy_121 : decode cX6_markBy 121 = .ok (.iand, 1) := by decide +kernel
theorem dX6_markBy_122 : decode cX6_markBy 122 = .ok (.imul, 1) := by decide +kernel
theorem dX6_markBy_123 : decode cX6_markBy 123 = .ok (.invokevirtual 61, 3) := by decide +kernel
theorem dX6_markBy_126 : decode cX6_markBy 126 = .ok (.iload 9, 2) := by decide +kernel
theorem dX6_markBy_128 : decode cX6_markBy 128 = .ok (.bipush 40, 2) := by decide +kernel
theorem dX6_markBy_130 : decode cX6_markBy 130 = .ok (.if_icmp .ne 14, 3) := by decide +kernel
theorem dX6_markBy_133 : decode cX6_markBy 133 = .ok (.iinc 6 1, 3) := by decide +kernel
theorem dX6_markBy_136 : decode cX6_markBy 136 = .ok (.aload_n 0, 1) := by decide +kernel
theorem dX6_markBy_137 : decode cX6_markBy 137 = .ok (.iload 6, 2) := by decide +kernel
theorem dX6_markBy_139 : decode cX6_markBy 139 = .ok (.iload 7, 2) := by decide +kernel
theorem dX6_markBy_141 : decode cX6_markBy 141 = .ok (.invokevirtual 68, 3) := by decide +kernel
theorem dX6_markBy_144 : decode cX6_markBy 144 = .ok (.iload 9, 2) := by decide +kernel
theorem dX6_markBy_146 : decode cX6_markBy 146 = .ok (.bipush 124, 2) := by decide +kernel
theorem dX6_markBy_148 : decode cX6_markBy 148 = .ok (.if_icmp .eq 10, 3) := by decide +kernel
theorem dX6_markBy_151 : decode cX6_markBy 151 = .ok (.iload 9, 2) := by decide +kernel
theorem dX6_markBy_153 : decode cX6_markBy 153 = .ok (.bipush 41, 2) := by decide +kernel
theorem dX6_markBy_155 : decode cX6_markBy 155 = .ok (.if_icmp .ne 9, 3) := by decide +kernel
theorem dX6_markBy_158 : decode cX6_markBy 158 = .ok (.aload_n 0, 1) := by decide +kernel
theorem dX6_markBy_159 : decode cX6_markBy 159 = .ok (.iload 6, 2) := by decide +kernel
theorem dX6_markBy_161 : decode cX6_markBy 161 = .ok (.invokevirtual 71, 3) := by decide +kernel
theorem dX6_markBy_164 : decode cX6_markBy 164 = .ok (.iload 9, 2) := by decide +kernel
theorem dX6_markBy_166 : decode cX6_markBy 166 = .ok (.bipush 41, 2) := by decide +kernel
theorem dX6_markBy_168 : decode cX6_markBy 168 = .ok (.if_icmp .ne 36, 3) := by decide +kernel
theorem dX6_markBy_171 : decode cX6_markBy 171 = .ok (.aload_n 0, 1) := by decide +kernel
theorem dX6_markBy_172 : decode cX6_markBy 172 = .ok (.getfield 34, 3) := by decide +kernel
theorem dX6_markBy_175 : decode cX6_markBy 175 = .ok (.iload 6, 2) := by decide +kernel
theorem dX6_markBy_177 : decode cX6_markBy 177 = .ok (.iconst 1, 1) := by decide +kernel
theorem dX6_markBy_178 : decode cX6_markBy 178 = .ok (.isub, 1) := by decide +kernel
theorem dX6_markBy_179 : decode cX6_markBy 179 = .ok (.aload_n 0, 1) := by decide +kernel
theorem dX6_markBy_180 : decode cX6_markBy 180 = .ok (.getfield 40, 3) := by decide +kernel
theorem dX6_markBy_183 : decode cX6_markBy 183 = .ok (.iload 6, 2) := by decide +kernel
theorem dX6_markBy_185 : decode cX6_markBy 185 = .ok (.invokevirtual 43, 3) := by decide +kernel
theorem dX6_markBy_188 : decode cX6_markBy 188 = .ok (.aload_n 0, 1) := by decide +kernel
theorem dX6_markBy_189 : decode cX6_markBy 189 = .ok (.getfield 37, 3) := by decide +kernel
theorem dX6_markBy_192 : decode cX6_markBy 192 = .ok (.iload 6, 2) := by decide +kernel
theorem dX6_markBy_194 : decode cX6_markBy 194 = .ok (.invokevirtual 43, 3) := by decide +kernel
theorem dX6_markBy_197 : decode cX6_markBy 197 = .ok (.imul, 1) := by decide +kernel
theorem dX6_markBy_198 : decode cX6_markBy 198 = .ok (.invokevirtual 61, 3) := by decide +kernel
theorem dX6_markBy_201 : decode cX6_markBy 201 = .ok (.iinc 6 (-1), 3) := by decide +kernel
theorem dX6_markBy_204 : decode cX6_markBy 204 = .ok (.iinc 8 1, 3) := by decide +kernel
theorem dX6_markBy_207 : decode cX6_markBy 207 = .ok (.goto (-171), 3) := by decide +kernel
theorem dX6_markBy_210 : decode cX6_markBy 210 = .ok (.aload_n 0, 1) := by decide +kernel
theorem dX6_markBy_211 : decode cX6_markBy 211 = .ok (.getfield 34, 3) := by decide +kernel
theorem dX6_markBy_214 : decode cX6_markBy 214 = .ok (.iconst 0, 1) := by decide +kernel
theorem dX6_markBy_215 : decode cX6_markBy 215 = .ok (.invokevirtual 43, 3) := by decide +kernel
theorem dX6_markBy_218 : decode cX6_markBy 218 = .ok (.aload_n 0, 1) := by decide +kernel
theorem dX6_markBy_219 : decode cX6_markBy 219 = .ok (.getfield 31, 3) := by decide +kernel
theorem dX6_markBy_222 : decode cX6_markBy 222 = .ok (.iload 4, 2) := by decide +kernel
theorem dX6_markBy_224 : decode cX6_markBy 224 = .ok (.invokevirtual 43, 3) := by decide +kernel
theorem dX6_markBy_227 : decode cX6_markBy 227 = .ok (.invokestatic 74, 3) := by decide +kernel
theorem dX6_markBy_230 : decode cX6_markBy 230 = .ok (.ireturn, 1) := by decide +kernel
set_option maxRecDepth 20000 in
theorem ggX6_begin_X5_set : GoodIn wsX6_begin wsX5_set := goodIn_r _ [8, 9, 18] (by decide +kernel) (by decide +kernel)
set_option maxRecDepth 20000 in
theorem gX6_begin_X5_set : GoodIn wsX6_begin (wsV RX6 52 RX5 yX5_set wsX5_set) := goodIn_app (goodIn_of _ (by decide +kernel)) ggX6_begin_X5_set
theorem dX6_begin_0 : decode cX6_begin 0 = .ok (.aload_n 0, 1) := by decide +kernel
theorem dX6_begin_1 : decode cX6_begin 1 = .ok (.getfield 34, 3) := by decide +kernel
theorem dX6_begin_4 : decode cX6_begin 4 = .ok (.iload_n 1, 1) := by decide +kernel
theorem dX6_begin_5 : decode cX6_begin 5 = .ok (.iconst 0, 1) := by decide +kernel
theorem dX6_begin_6 : decode cX6_begin 6 = .ok (.invokevirtual 52, 3) := by decide +kernel
theorem dX6_begin_9 : decode cX6_begin 9 = .ok (.aload_n 0, 1) := by decide +kernel
theorem dX6_begin_10 : decode cX6_begin 10 = .ok (.getfield 37, 3) := by decide +kernel
theorem dX6_begin_13 : decode cX6_begin 13 = .ok (.iload_n 1, 1) := by decide +kernel
theorem dX6_begin_14 : decode cX6_begin 14 = .ok (.iconst 0, 1) := by decide +kernel
theorem dX6_begin_15 : decode cX6_begin 15 = .ok (.invokevirtual 52, 3) := by decide +kernel
theorem dX6_begin_18 : decode cX6_begin 18 = .ok (.aload_n 0, 1) := by decide +kernel
theorem dX6_begin_19 : decode cX6_begin 19 = .ok (.getfield 40, 3) := by decide +kernel
theorem dX6_begin_22 : decode cX6_begin 22 = .ok (.iload_n 1, 1) := by decide +kernel
theorem dX6_begin_23 : decode cX6_begin 23 = .ok (.iload_n 2, 1) := by decide +kernel
theorem dX6_begin_24 : decode cX6_begin 24 = .ok (.invokevirtual 52, 3) := by decide +kernel
theorem dX6_begin_27 : decode cX6_begin 27 = .ok (.return_, 1) := by decide +kernel
set_option maxRecDepth 20000 in
theorem ggX6_endSum_X5_get : GoodIn wsX6_endSum wsX5_get := goodIn_r _ [11, 12, 25] (by decide +kernel) (by decide +kernel)
set_option maxRecDepth 20000 in
theorem gX6_endSum_X5_get : GoodIn wsX6_endSum (wsV RX6 43 RX5 yX5_get wsX5_get) := goodIn_app (goodIn_of _ (by decide +kernel)) ggX6_endSum_X5_get
set_option maxRecDepth 20000 in
theorem ggX6_endSum_X5_set : GoodIn wsX6_endSum wsX5_set := goodIn_r _ [16, 12, 25] (by decide +kernel) (by decide +kernel)
set_option maxRecDepth 20000 in
theorem gX6_endSum_X5_set : GoodIn wsX6_endSum (wsV RX6 52 RX5 yX5_set wsX5_set) := goodIn_app (goodIn_of _ (by decide +kernel)) ggX6_endSum_X5_set
theorem dX6_endSum_0 : decode cX6_endSum 0 = .ok (.aload_n 0, 1) := by decide +kernel
theorem dX6_endSum_1 : decode cX6_endSum 1 = .ok (.getfield 37, 3) := by decide +kernel
theorem dX6_endSum_4 : decode cX6_endSum 4 = .ok (.iload_n 1, 1) := by decide +kernel
theorem dX6_endSum_5 : decode cX6_endSum 5 = .ok (.aload_n 0, 1) := by decide +kernel
theorem dX6_endSum_6 : decode cX6_endSum 6 = .ok (.getfield 37, 3) := by decide +kernel
theorem dX6_endSum_9 : decode cX6_endSum 9 = .ok (.iload_n 1, 1) := by decide +kernel
theorem dX6_endSum_10 : decode cX6_endSum 10 = .ok (.invokevirtual 43, 3) := by decide +kernel
theorem dX6_endSum_13 : decode cX6_endSum 13 = .ok (.aload_n 0, 1) := by decide +kernel
theorem dX6_endSum_14 : decode cX6_endSum 14 = .ok (.getfield 34, 3) := by decide +kernel
theorem dX6_endSum_17 : decode cX6_endSum 17 = .ok (.iload_n 1, 1) := by decide +kernel
theorem dX6_endSum_18 : decode cX6_endSum 18 = .ok (.invokevirtual 43, 3) := by decide +kernel
theorem dX6_endSum_21 : decode cX6_endSum 21 = .ok (.invokestatic 80, 3) := by decide +kernel
theorem dX6_endSum_24 : decode cX6_endSum 24 = .ok (.invokevirtual 52, 3) := by decide +kernel
theorem dX6_endSum_27 : decode cX6_endSum 27 = .ok (.aload_n 0, 1) := by decide +kernel
theorem dX6_endSum_28 : decode cX6_endSum 28 = .ok (.getfield 34, 3) := by decide +kernel
theorem dX6_endSum_31 : decode cX6_endSum 31 = .ok (.iload_n 1, 1) := by decide +kernel
theorem dX6_endSum_32 : decode cX6_endSum 32 = .ok (.iconst 0, 1) := by decide +kernel
theorem dX6_endSum_33 : decode cX6_endSum 33 = .ok (.invokevirtual 52, 3) := by decide +kernel
theorem dX6_endSum_36 : decode cX6_endSum 36 = .ok (.return_, 1) := by decide +kernel
set_option maxRecDepth 20000 in
theorem ggX7_init_X5_init : GoodIn wsX7_init wsX5_init := goodIn_r _ [11, 12, 2, 3, 13, 14, 15, 16, 17, 18, 19] (by decide +kernel) (by decide +kernel)
set_option maxRecDepth 20000 in
theorem gX7_init_X5_init : GoodIn wsX7_init (wsX5_init) := ggX7_init_X5_init
theorem dX7_init_0 : decode cX7_init 0 = .ok (.aload_n 0, 1) := by decide +kernel
theorem dX7_init_1 : decode cX7_init 1 = .ok (.invokespecial 1, 3) := by decide +kernel
theorem dX7_init_4 : decode cX7_init 4 = .ok (.aload_n 0, 1) := by decide +kernel
theorem dX7_init_5 : decode cX7_init 5 = .ok (.new 7, 3) := by decide +kernel
theorem dX7_init_8 : decode cX7_init 8 = .ok (.dup, 1) := by decide +kernel
theorem dX7_init_9 : decode cX7_init 9 = .ok (.bipush 8, 2) := by decide +kernel
theorem dX7_init_11 : decode cX7_init 11 = .ok (.invokespecial 11, 3) := by decide +kernel
theorem dX7_init_14 : decode cX7_init 14 = .ok (.putfield 14, 3) := by decide +kernel
theorem dX7_init_17 : decode cX7_init 17 = .ok (.aload_n 0, 1) := by decide +kernel
theorem dX7_init_18 : decode cX7_init 18 = .ok (.new 7, 3) := by decide +kernel
theorem dX7_init_21 : decode cX7_init 21 = .ok (.dup, 1) := by decide +kernel
theorem dX7_init_22 : decode cX7_init 22 = .ok (.bipush 8, 2) := by decide +kernel
theorem dX7_init_24 : decode cX7_init 24 = .ok (.invokespecial 11, 3) := by decide +kernel
theorem dX7_init_27 : decode cX7_init 27 = .ok (.putfield 18, 3) := by decide +kernel
theorem dX7_init_30 : decode cX7_init 30 = .ok (.return_, 1) := by decide +kernel
set_option maxRecDepth 20000 in
theorem ggX7_enter_X5_set : GoodIn wsX7_enter wsX5_set := goodIn_r _ [8, 9, 13] (by decide +kernel) (by decide +kernel)
set_option maxRecDepth 20000 in
theorem gX7_enter_X5_set : GoodIn wsX7_enter (wsV RX7 25 RX5 yX5_set wsX5_set) := goodIn_app (goodIn_of _ (by decide +kernel)) ggX7_enter_X5_set
theorem dX7_enter_0 : decode cX7_enter 0 = .ok (.aload_n 0, 1) := by decide +kernel
theorem dX7_enter_1 : decode cX7_enter 1 = .ok (.getfield 21, 3) := by decide +kernel
theorem dX7_enter_4 : decode cX7_enter 4 = .ok (.istore_n 3, 1) := by decide +kernel
theorem dX7_enter_5 : decode cX7_enter 5 = .ok (.aload_n 0, 1) := by decide +kernel
theorem dX7_enter_6 : decode cX7_enter 6 = .ok (.getfield 14, 3) := by decide +kernel
theorem dX7_enter_9 : decode cX7_enter 9 = .ok (.iload_n 3, 1) := by decide +kernel
theorem dX7_enter_10 : decode cX7_enter 10 = .ok (.iload_n 1, 1) := by decide +kernel
theorem dX7_enter_11 : decode cX7_enter 11 = .ok (.invokevirtual 25, 3) := by decide +kernel
theorem dX7_enter_14 : decode cX7_enter 14 = .ok (.aload_n 0, 1) := by decide +kernel
theorem dX7_enter_15 : decode cX7_enter 15 = .ok (.getfield 18, 3) := by decide +kernel
theorem dX7_enter_18 : decode cX7_enter 18 = .ok (.iload_n 3, 1) := by decide +kernel
theorem dX7_enter_19 : decode cX7_enter 19 = .ok (.iload_n 2, 1) := by decide +kernel
theorem dX7_enter_20 : decode cX7_enter 20 = .ok (.invokevirtual 25, 3) := by decide +kernel
theorem dX7_enter_23 : decode cX7_enter 23 = .ok (.aload_n 0, 1) := by decide +kernel
theorem dX7_enter_24 : decode cX7_enter 24 = .ok (.dup, 1) := by decide +kernel
theorem dX7_enter_25 : decode cX7_enter 25 = .ok (.getfield 21, 3) := by decide +kernel
theorem dX7_enter_28 : decode cX7_enter 28 = .ok (.iconst 1, 1) := by decide +kernel
theorem dX7_enter_29 : decode cX7_enter 29 = .ok (.iadd, 1) := by decide +kernel
theorem dX7_enter_30 : decode cX7_enter 30 = .ok (.putfield 21, 3) := by decide +kernel
theorem dX7_enter_33 : decode cX7_enter 33 = .ok (.iload_n 3, 1) := by decide +kernel
theorem dX7_enter_34 : decode cX7_enter 34 = .ok (.ireturn, 1) := by decide +kernel
theorem dX8_init_0 : decode cX8_init 0 = .ok (.aload_n 0, 1) := by decide +kernel
theorem dX8_init_1 : decode cX8_init 1 = .ok (.invokespecial 3, 3) := by decide +kernel
theorem dX8_init_4 : decode cX8_init 4 = .ok (.return_, 1) := by decide +kernel
theorem dX8_clear_0 : decode cX8_clear 0 = .ok (.aload_n 0, 1) := by decide +kernel
theorem dX8_clear_1 : decode cX8_clear 1 = .ok (.iconst 0, 1) := by decide +kernel
theorem dX8_clear_2 : decode cX8_clear 2 = .ok (.putfield 9, 3) := by decide +kernel
theorem dX8_clear_5 : decode cX8_clear 5 = .ok (.aload_n 0, 1) := by decide +kernel
theorem dX8_clear_6 : decode cX8_clear 6 = .ok (.iconst 0, 1) := by decide +kernel
theorem dX8_clear_7 : decode cX8_clear 7 = .ok (.putfield 15, 3) := by decide +kernel
theorem dX8_clear_10 : decode cX8_clear 10 = .ok (.aload_n 0, 1) := by decide +kernel
theorem dX8_clear_11 : decode cX8_clear 11 = .ok (.iconst 0, 1) := by decide +kernel
theorem dX8_clear_12 : decode cX8_clear 12 = .ok (.putfield 18, 3) := by decide +kernel
theorem dX8_clear_15 : decode cX8_clear 15 = .ok (.aload_n 0, 1) := by decide +kernel
theorem dX8_clear_16 : decode cX8_clear 16 = .ok (.iconst (-1), 1) := by decide +kernel
theorem dX8_clear_17 : decode cX8_clear 17 = .ok (.putfield 21, 3) := by decide +kernel
theorem dX8_clear_20 : decode cX8_clear 20 = .ok (.aload_n 0, 1) := by decide +kernel
theorem dX8_clear_21 : decode cX8_clear 21 = .ok (.iconst (-1), 1) := by decide +kernel
theorem dX8_clear_22 : decode cX8_clear 22 = .ok (.putfield 24, 3) := by decide +kernel
theorem dX8_clear_25 : decode cX8_clear 25 = .ok (.aload_n 0, 1) := by decide +kernel
theorem dX8_clear_26 : decode cX8_clear 26 = .ok (.iconst (-1), 1) := by decide +kernel
theorem dX8_clear_27 : decode cX8_clear 27 = .ok (.putfield 27, 3) := by decide +kernel
theorem dX8_clear_30 : decode cX8_clear 30 = .ok (.aload_n 0, 1) := by decide +kernel
theorem dX8_clear_31 : decode cX8_clear 31 = .ok (.iconst (-1), 1) := by decide +kernel
theorem dX8_clear_32 : decode cX8_clear 32 = .ok (.putfield 30, 3) := by decide +kernel
theorem dX8_clear_35 : decode cX8_clear 35 = .ok (.return_, 1) := by decide +kernel
theorem dX8_take_0 : decode cX8_take 0 = .ok (.aload_n 0, 1) := by decide +kernel
theorem dX8_take_1 : decode cX8_take 1 = .ok (.dup, 1) := by decide +kernel
theorem dX8_take_2 : decode cX8_take 2 = .ok (.getfield 9, 3) := by decide +kernel
theorem dX8_take_5 : decode cX8_take 5 = .ok (.iconst 1, 1) := by decide +kernel
theorem dX8_take_6 : decode cX8_take 6 = .ok (.iadd, 1) := by decide +kernel
theorem dX8_take_7 : decode cX8_take 7 = .ok (.putfield 9, 3) := by decide +kernel
theorem dX8_take_10 : decode cX8_take 10 = .ok (.iload_n 1, 1) := by decide +kernel
theorem dX8_take_11 : decode cX8_take 11 = .ok (.iconst (-1), 1) := by decide +kernel
theorem dX8_take_12 : decode cX8_take 12 = .ok (.if_icmp .ne 4, 3) := by decide +kernel
theorem dX8_take_15 : decode cX8_take 15 = .ok (.return_, 1) := by decide +kernel
theorem dX8_take_16 : decode cX8_take 16 = .ok (.aload_n 0, 1) := by decide +kernel
theorem dX8_take_17 : decode cX8_take 17 = .ok (.dup, 1) := by decide +kernel
theorem dX8_take_18 : decode cX8_take 18 = .ok (.getfield 15, 3) := by decide +kernel
theorem dX8_take_21 : decode cX8_take 21 = .ok (.iconst 1, 1) := by decide +kernel
theorem dX8_take_22 : decode cX8_take 22 = .ok (.iadd, 1) := by decide +kernel
theorem dX8_take_23 : decode cX8_take 23 = .ok (.putfield 15, 3) := by decide +kernel
theorem dX8_take_26 : decode cX8_take 26 = .ok (.iload_n 3, 1) := by decide +kernel
theorem dX8_take_27 : decode cX8_take 27 = .ok (.ifCond .eq 17, 3) := by decide +kernel
theorem dX8_take_30 : decode cX8_take 30 = .ok (.aload_n 0, 1) := by decide +kernel
theorem dX8_take_31 : decode cX8_take 31 = .ok (.getfield 30, 3) := by decide +kernel
theorem dX8_take_34 : decode cX8_take 34 = .ok (.iconst (-1), 1) := by decide +kernel
theorem dX8_take_35 : decode cX8_take 35 = .ok (.if_icmp .ne 8, 3) := by decide +kernel
theorem dX8_take_38 : decode cX8_take 38 = .ok (.aload_n 0, 1) := by decide +kernel
theorem dX8_take_39 : decode cX8_take 39 = .ok (.iload_n 1, 1) := by decide +kernel
theorem dX8_take_40 : decode cX8_take 40 = .ok (.putfield 30, 3) := by decide +kernel
theorem dX8_take_43 : decode cX8_take 43 = .ok (.return_, 1) := by decide +kernel
theorem dX8_take_44 : decode cX8_take 44 = .ok (.aload_n 0, 1) := by decide +kernel
theorem dX8_take_45 : decode cX8_take 45 = .ok (.getfield 18, 3) := by decide +kernel
theorem dX8_take_48 : decode cX8_take 48 = .ok (.ifCond .ne 8, 3) := by decide +kernel
theorem dX8_take_51 : decode cX8_take 51 = .ok (.aload_n 0, 1) := by decide +kernel
theorem dX8_take_52 : decode cX8_take 52 = .ok (.iload_n 1, 1) := by decide +kernel
theorem dX8_take_53 : decode cX8_take 53 = .ok (.putfield 21, 3) := by decide +kernel
theorem dX8_take_56 : decode cX8_take 56 = .ok (.aload_n 0, 1) := by decide +kernel
theorem dX8_take_57 : decode cX8_take 57 = .ok (.getfield 18, 3) := by decide +kernel
theorem dX8_take_60 : decode cX8_take 60 = .ok (.iconst 1, 1) := by decide +kernel
theorem dX8_take_61 : decode cX8_take 61 = .ok (.if_icmp .ne 8, 3) := by decide +kernel
theorem dX8_take_64 : decode cX8_take 64 = .ok (.aload_n 0, 1) := by decide +kernel
theorem dX8_take_65 : decode cX8_take 65 = .ok (.iload_n 1, 1) := by decide +kernel
theorem dX8_take_66 : decode cX8_take 66 = .ok (.putfield 24, 3) := by decide +kernel
theorem dX8_take_69 : decode cX8_take 69 = .ok (.aload_n 0, 1) := by decide +kernel
theorem dX8_take_70 : decode cX8_take 70 = .ok (.getfield 18, 3) := by decide +kernel
theorem dX8_take_73 : decode cX8_take 73 = .ok (.iconst 1, 1) := by decide +kernel
theorem dX8_take_74 : decode cX8_take 74 = .ok (.if_icmp .le 20, 3) := by decide +kernel
theorem dX8_take_77 : decode cX8_take 77 = .ok (.iload_n 2, 1) := by decide +kernel
theorem dX8_take_78 : decode cX8_take 78 = .ok (.ifCond .eq 16, 3) := by decide +kernel
theorem dX8_take_81 : decode cX8_take 81 = .ok (.aload_n 0, 1) := by decide +kernel
theorem dX8_take_82 : decode cX8_take 82 = .ok (.getfield 27, 3) := by decide +kernel
theorem dX8_take_85 : decode cX8_take 85 = .ok (.iconst (-1), 1) := by decide +kernel
theorem dX8_take_86 : decode cX8_take 86 = .ok (.if_icmp .ne 8, 3) := by decide +kernel
theorem dX8_take_89 : decode cX8_take 89 = .ok (.aload_n 0, 1) := by decide +kernel
theorem dX8_take_90 : decode cX8_take 90 = .ok (.iload_n 1, 1) := by decide +kernel
theorem dX8_take_91 : decode cX8_take 91 = .ok (.putfield 27, 3) := by decide +kernel
theorem dX8_take_94 : decode cX8_take 94 = .ok (.aload_n 0, 1) := by decide +kernel
theorem dX8_take_95 : decode cX8_take 95 = .ok (.dup, 1) := by decide +kernel
theorem dX8_take_96 : decode cX8_take 96 = .ok (.getfield 18, 3) := by decide +kernel
theorem dX8_take_99 : decode cX8_take 99 = .ok (.iconst 1, 1) := by decide +kernel
theorem dX8_take_100 : decode cX8_take 100 = .ok (.iadd, 1) := by decide +kernel
theorem dX8_take_101 : decode cX8_take 101 = .ok (.putfield 18, 3) := by decide +kernel
theorem dX8_take_104 : decode cX8_take 104 = .ok (.return_, 1) := by decide +kernel
theorem dX8_isPastDue_0 : decode cX8_isPastDue 0 = .ok (.aload_n 0, 1) := by decide +kernel
theorem dX8_isPastDue_1 : decode cX8_isPastDue 1 = .ok (.getfield 18, 3) := by decide +kernel
theorem dX8_isPastDue_4 : decode cX8_isPastDue 4 = .ok (.iload_n 1, 1) := by decide +kernel
theorem dX8_isPastDue_5 : decode cX8_isPastDue 5 = .ok (.ifCond .eq 7, 3) := by decide +kernel
theorem dX8_isPastDue_8 : decode cX8_isPastDue 8 = .ok (.iconst 2, 1) := by decide +kernel
theorem dX8_isPastDue_9 : decode cX8_isPastDue 9 = .ok (.goto 4, 3) := by decide +kernel
theorem dX8_isPastDue_12 : decode cX8_isPastDue 12 = .ok (.iconst 1, 1) := by decide +kernel
theorem dX8_isPastDue_13 : decode cX8_isPastDue 13 = .ok (.if_icmp .lt 7, 3) := by decide +kernel
theorem dX8_isPastDue_16 : decode cX8_isPastDue 16 = .ok (.iconst 1, 1) := by decide +kernel
theorem dX8_isPastDue_17 : decode cX8_isPastDue 17 = .ok (.goto 4, 3) := by decide +kernel
theorem dX8_isPastDue_20 : decode cX8_isPastDue 20 = .ok (.iconst 0, 1) := by decide +kernel
theorem dX8_isPastDue_21 : decode cX8_isPastDue 21 = .ok (.ireturn, 1) := by decide +kernel
set_option maxRecDepth 20000 in
theorem ggX8_lackingAsPlain_X8_isPastDue : GoodIn wsX8_lackingAsPlain wsX8_isPastDue := goodIn_r _ [9, 1, 13, 14, 15, 16, 17, 18, 19] (by decide +kernel) (by decide +kernel)
set_option maxRecDepth 20000 in
theorem gX8_lackingAsPlain_X8_isPastDue : GoodIn wsX8_lackingAsPlain (wsV RX8 33 RX8 yX8_isPastDue wsX8_isPastDue) := goodIn_app (goodIn_of _ (by decide +kernel)) ggX8_lackingAsPlain_X8_isPastDue
set_option maxRecDepth 20000 in
theorem ggX8_lackingAsPlain_X9_areApart : GoodIn wsX8_lackingAsPlain wsX9_areApart := goodIn_r _ [12] (by decide +kernel) (by decide +kernel)
set_option maxRecDepth 20000 in
theorem gX8_lackingAsPlain_X9_areApart_n37 : GoodIn wsX8_lackingAsPlain (wsX9_areApart) := ggX8_lackingAsPlain_X9_areApart
theorem dX8_lackingAsPlain_0 : decode cX8_lackingAsPlain 0 = .ok (.aload_n 0, 1) := by decide +kernel
theorem dX8_lackingAsPlain_1 : decode cX8_lackingAsPlain 1 = .ok (.iload_n 1, 1) := by decide +kernel
theorem dX8_lackingAsPlain_2 : decode cX8_lackingAsPlain 2 = .ok (.invokevirtual 33, 3) := by decide +kernel
theorem dX8_lackingAsPlain_5 : decode cX8_lackingAsPlain 5 = .ok (.ifCond .ne 18, 3) := by decide +kernel
theorem dX8_lackingAsPlain_8 : decode cX8_lackingAsPlain 8 = .ok (.iload_n 1, 1) := by decide +kernel
theorem dX8_lackingAsPlain_9 : decode cX8_lackingAsPlain 9 = .ok (.ifCond .eq 7, 3) := by decide +kernel
theorem dX8_lackingAsPlain_12 : decode cX8_lackingAsPlain 12 = .ok (.iconst 2, 1) := by decide +kernel
theorem dX8_lackingAsPlain_13 : decode cX8_lackingAsPlain 13 = .ok (.goto 4, 3) := by decide +kernel
theorem dX8_lackingAsPlain_16 : decode cX8_lackingAsPlain 16 = .ok (.iconst 1, 1) := by decide +kernel
theorem dX8_lackingAsPlain_17 : decode cX8_lackingAsPlain 17 = .ok (.aload_n 0, 1) := by decide +kernel
theorem dX8_lackingAsPlain_18 : decode cX8_lackingAsPlain 18 = .ok (.getfield 18, 3) := by decide +kernel
theorem dX8_lackingAsPlain_21 : decode cX8_lackingAsPlain 21 = .ok (.isub, 1) := by decide +kernel
theorem dX8_lackingAsPlain_22 : decode cX8_lackingAsPlain 22 = .ok (.ireturn, 1) := by decide +kernel
theorem dX8_lackingAsPlain_23 : decode cX8_lackingAsPlain 23 = .ok (.iload_n 1, 1) := by decide +kernel
theorem dX8_lackingAsPlain_24 : decode cX8_lackingAsPlain 24 = .ok (.ifCond .eq 30, 3) := by decide +kernel
theorem dX8_lackingAsPlain_27 : decode cX8_lackingAsPlain 27 = .ok (.aload_n 0, 1) := by decide +kernel
theorem dX8_lackingAsPlain_28 : decode cX8_lackingAsPlain 28 = .ok (.getfield 27, 3) := by decide +kernel
theorem dX8_lackingAsPlain_31 : decode cX8_lackingAsPlain 31 = .ok (.iconst (-1), 1) := by decide +kernel
theorem dX8_lackingAsPlain_32 : decode cX8_lackingAsPlain 32 = .ok (.if_icmp .ne 22, 3) := by decide +kernel
theorem dX8_lackingAsPlain_35 : decode cX8_lackingAsPlain 35 = .ok (.aload_n 0, 1) := by decide +kernel
theorem dX8_lackingAsPlain_36 : decode cX8_lackingAsPlain 36 = .ok (.getfield 21, 3) := by decide +kernel
theorem dX8_lackingAsPlain_39 : decode cX8_lackingAsPlain 39 = .ok (.aload_n 0, 1) := by decide +kernel
theorem dX8_lackingAsPlain_40 : decode cX8_lackingAsPlain 40 = .ok (.getfield 24, 3) := by decide +kernel
theorem dX8_lackingAsPlain_43 : decode cX8_lackingAsPlain 43 = .ok (.iload_n 2, 1) := by decide +kernel
theorem dX8_lackingAsPlain_44 : decode cX8_lackingAsPlain 44 = .ok (.invokestatic 37, 3) := by decide +kernel
theorem dX8_lackingAsPlain_47 : decode cX8_lackingAsPlain 47 = .ok (.ifCond .eq 7, 3) := by decide +kernel
theorem dX8_lackingAsPlain_50 : decode cX8_lackingAsPlain 50 = .ok (.iconst 1, 1) := by decide +kernel
theorem dX8_lackingAsPlain_51 : decode cX8_lackingAsPlain 51 = .ok (.goto 4, 3) := by decide +kernel
theorem dX8_lackingAsPlain_54 : decode cX8_lackingAsPlain 54 = .ok (.iconst 0, 1) := by decide +kernel
theorem dX8_lackingAsPlain_55 : decode cX8_lackingAsPlain 55 = .ok (.ireturn, 1) := by decide +kernel
set_option maxRecDepth 20000 in
theorem ggX8_outcome_X8_lackingAsPlain : GoodIn wsX8_outcome wsX8_lackingAsPlain := goodIn_r _ [9, 10, 3, 1, 2, 11, 12, 13, 8, 14, 15, 16, 17, 18, 19, 20, 21, 22, 23, 24] (by decide +kernel) (by decide +kernel)
set_option maxRecDepth 20000 in
theorem gX8_outcome_X8_lackingAsPlain : GoodIn wsX8_outcome (wsV RX8 41 RX8 yX8_lackingAsPlain wsX8_lackingAsPlain) := goodIn_app (goodIn_of _ (by decide +kernel)) ggX8_outcome_X8_lackingAsPlain
set_option maxRecDepth 20000 in
theorem ggX8_outcome_X9_areApart : GoodIn wsX8_outcome wsX9_areApart := goodIn_r _ [17] (by decide +kernel) (by decide +kernel)
set_option maxRecDepth 20000 in
theorem gX8_outcome_X9_areApart_n37 : GoodIn wsX8_outcome (wsX9_areApart) := ggX8_outcome_X9_areApart
theorem dX8_outcome_0 : decode cX8_outcome 0 = .ok (.aload_n 0, 1) := by decide +kernel
theorem dX8_outcome_1 : decode cX8_outcome 1 = .ok (.iload_n 1, 1) := by decide +kernel
theorem dX8_outcome_2 : decode cX8_outcome 2 = .ok (.iload_n 2, 1) := by decide +kernel
theorem dX8_outcome_3 : decode cX8_outcome 3 = .ok (.invokevirtual 41, 3) := by decide +kernel
theorem dX8_outcome_6 : decode cX8_outcome 6 = .ok (.ifCond .le 5, 3) := by decide +kernel
theorem dX8_outcome_9 : decode cX8_outcome 9 = .ok (.iconst (-1), 1) := by decide +kernel
theorem dX8_outcome_10 : decode cX8_outcome 10 = .ok (.ireturn, 1) := by decide +kernel
theorem dX8_outcome_11 : decode cX8_outcome 11 = .ok (.aload_n 0, 1) := by decide +kernel
theorem dX8_outcome_12 : decode cX8_outcome 12 = .ok (.getfield 21, 3) := by decide +kernel
theorem dX8_outcome_15 : decode cX8_outcome 15 = .ok (.istore_n 3, 1) := by decide +kernel
theorem dX8_outcome_16 : decode cX8_outcome 16 = .ok (.iload_n 1, 1) := by decide +kernel
theorem dX8_outcome_17 : decode cX8_outcome 17 = .ok (.ifCond .eq 39, 3) := by decide +kernel
theorem dX8_outcome_20 : decode cX8_outcome 20 = .ok (.aload_n 0, 1) := by decide +kernel
theorem dX8_outcome_21 : decode cX8_outcome 21 = .ok (.getfield 21, 3) := by decide +kernel
theorem dX8_outcome_24 : decode cX8_outcome 24 = .ok (.aload_n 0, 1) := by decide +kernel
theorem dX8_outcome_25 : decode cX8_outcome 25 = .ok (.getfield 24, 3) := by decide +kernel
theorem dX8_outcome_28 : decode cX8_outcome 28 = .ok (.iload_n 2, 1) := by decide +kernel
theorem dX8_outcome_29 : decode cX8_outcome 29 = .ok (.invokestatic 37, 3) := by decide +kernel
theorem dX8_outcome_32 : decode cX8_outcome 32 = .ok (.ifCond .eq 10, 3) := by decide +kernel
theorem dX8_outcome_35 : decode cX8_outcome 35 = .ok (.aload_n 0, 1) := by decide +kernel
theorem dX8_outcome_36 : decode cX8_outcome 36 = .ok (.getfield 27, 3) := by decide +kernel
theorem dX8_outcome_39 : decode cX8_outcome 39 = .ok (.goto 16, 3) := by decide +kernel
theorem dX8_outcome_42 : decode cX8_outcome 42 = .ok (.aload_n 0, 1) := by decide +kernel
theorem dX8_outcome_43 : decode cX8_outcome 43 = .ok (.getfield 21, 3) := by decide +kernel
theorem dX8_outcome_46 : decode cX8_outcome 46 = .ok (.aload_n 0, 1) := by decide +kernel
theorem dX8_outcome_47 : decode cX8_outcome 47 = .ok (.getfield 24, 3) := by decide +kernel
theorem dX8_outcome_50 : decode cX8_outcome 50 = .ok (.iadd, 1) := by decide +kernel
theorem dX8_outcome_51 : decode cX8_outcome 51 = .ok (.iconst 1, 1) := by decide +kernel
theorem dX8_outcome_52 : decode cX8_outcome 52 = .ok (.iadd, 1) := by decide +kernel
theorem dX8_outcome_53 : decode cX8_outcome 53 = .ok (.iconst 2, 1) := by decide +kernel
theorem dX8_outcome_54 : decode cX8_outcome 54 = .ok (.idiv, 1) := by decide +kernel
theorem dX8_outcome_55 : decode cX8_outcome 55 = .ok (.istore_n 3, 1) := by decide +kernel
theorem dX8_outcome_56 : decode cX8_outcome 56 = .ok (.aload_n 0, 1) := by decide +kernel
theorem dX8_outcome_57 : decode cX8_outcome 57 = .ok (.getfield 30, 3) := by decide +kernel
theorem dX8_outcome_60 : decode cX8_outcome 60 = .ok (.iconst (-1), 1) := by decide +kernel
theorem dX8_outcome_61 : decode cX8_outcome 61 = .ok (.if_icmp .eq 22, 3) := by decide +kernel
theorem dX8_outcome_64 : decode cX8_outcome 64 = .ok (.iload_n 3, 1) := by decide +kernel
theorem dX8_outcome_65 : decode cX8_outcome 65 = .ok (.aload_n 0, 1) := by decide +kernel
theorem dX8_outcome_66 : decode cX8_outcome 66 = .ok (.getfield 30, 3) := by decide +kernel
theorem dX8_outcome_69 : decode cX8_outcome 69 = .ok (.iload_n 2, 1) := by decide +kernel
theorem dX8_outcome_70 : decode cX8_outcome 70 = .ok (.invokestatic 37, 3) := by decide +kernel
theorem dX8_outcome_73 : decode cX8_outcome 73 = .ok (.ifCond .eq 10, 3) := by decide +kernel
theorem dX8_outcome_76 : decode cX8_outcome 76 = .ok (.aload_n 0, 1) := by decide +kernel
theorem dX8_outcome_77 : decode cX8_outcome 77 = .ok (.getfield 30, 3) := by decide +kernel
theorem dX8_outcome_80 : decode cX8_outcome 80 = .ok (.goto 4, 3) := by decide +kernel
theorem dX8_outcome_83 : decode cX8_outcome 83 = .ok (.iload_n 3, 1) := by decide +kernel
theorem dX8_outcome_84 : decode cX8_outcome 84 = .ok (.ireturn, 1) := by decide +kernel
set_option maxRecDepth 20000 in
theorem ggX9_init_X1_init : GoodIn wsX9_init wsX1_init := goodIn_r _ [43, 44, 2, 3, 45, 37, 38, 46, 47, 48, 49, 50, 51, 52, 53, 54, 55, 56, 204, 131, 132] (by decide +kernel) (by decide +kernel)
set_option maxRecDepth 20000 in
theorem gX9_init_X1_init_n9 : GoodIn wsX9_init (wsX1_init) := ggX9_init_X1_init
set_option maxRecDepth 20000 in
theorem ggX9_init_X0_init : GoodIn wsX9_init wsX0_init := goodIn_r _ [58, 59, 2, 3, 60, 37, 38, 61, 62, 48, 49, 50, 51, 52, 53, 54, 55, 56, 204, 148, 149, 150, 151, 152, 153] (by decide +kernel) (by decide +kernel)
set_option maxRecDepth 20000 in
theorem gX9_init_X0_init_n18 : GoodIn wsX9_init (wsX0_init) := ggX9_init_X0_init
set_option maxRecDepth 20000 in
theorem ggX9_init_X6_init : GoodIn wsX9_init wsX6_init := goodIn_r _ [64, 65, 2, 3, 66, 37, 38, 67, 68, 69, 70, 71, 72, 73, 74, 75, 48, 49, 50, 51, 52, 53, 54, 55, 56, 204, 154, 155, 156, 157, 158, 159, 160, 161] (by decide +kernel) (by decide +kernel)
set_option maxRecDepth 20000 in
theorem gX9_init_X6_init_n25 : GoodIn wsX9_init (wsX6_init) := ggX9_init_X6_init
set_option maxRecDepth 20000 in
theorem ggX9_init_X3_init : GoodIn wsX9_init wsX3_init := goodIn_r _ [77, 78, 2, 3, 79, 37, 38, 80, 81, 82, 83, 84, 85, 86, 48, 49, 50, 51, 52, 53, 54, 55, 56, 204, 162, 163, 164, 165, 166, 167, 168] (by decide +kernel) (by decide +kernel)
set_option maxRecDepth 20000 in
theorem gX9_init_X3_init_n32 : GoodIn wsX9_init (wsX3_init) := ggX9_init_X3_init
set_option maxRecDepth 20000 in
theorem ggX9_init_X4_init : GoodIn wsX9_init wsX4_init := goodIn_r _ [88, 89, 2, 3, 90, 37, 38, 91, 92, 93, 94, 95, 96, 97, 98, 99, 100, 101, 102, 103, 48, 49, 50, 51, 52, 53, 54, 55, 56, 204, 169, 170, 171, 172, 173, 174, 175, 176, 177, 178, 179, 180, 181] (by decide +kernel) (by decide +kernel)
set_option maxRecDepth 20000 in
theorem gX9_init_X4_init_n39 : GoodIn wsX9_init (wsX4_init) := ggX9_init_X4_init
set_option maxRecDepth 20000 in
theorem ggX9_init_X7_init : GoodIn wsX9_init wsX7_init := goodIn_r _ [105, 106, 2, 3, 107, 37, 38, 108, 109, 110, 48, 49, 50, 51, 52, 53, 54, 55, 56, 204, 182, 183, 184] (by decide +kernel) (by decide +kernel)
set_option maxRecDepth 20000 in
theorem gX9_init_X7_init_n46 : GoodIn wsX9_init (wsX7_init) := ggX9_init_X7_init
set_option maxRecDepth 20000 in
theorem ggX9_init_X2_init : GoodIn wsX9_init wsX2_init := goodIn_r _ [112, 113, 2, 3, 114, 37, 38, 115, 116, 117, 118, 119, 120, 121, 122, 123, 124, 125, 126, 48, 49, 50, 51, 52, 53, 54, 55, 56, 204, 185, 186, 187, 188, 189, 190, 191, 192, 193, 194, 195, 196] (by decide +kernel) (by decide +kernel)
set_option maxRecDepth 20000 in
theorem gX9_init_X2_init_n53 : GoodIn wsX9_init (wsX2_init) := ggX9_init_X2_init
set_option maxRecDepth 20000 in
theorem ggX9_init_X8_init : GoodIn wsX9_init wsX8_init := goodIn_r _ [128, 129, 2, 3] (by decide +kernel) (by decide +kernel)
set_option maxRecDepth 20000 in
theorem gX9_init_X8_init_n60 : GoodIn wsX9_init (wsX8_init) := ggX9_init_X8_init
set_option maxRecDepth 20000 in
theorem ggX9_init_X5_init : GoodIn wsX9_init wsX5_init := goodIn_r _ [49, 50, 2, 3, 51, 52, 53, 54, 55, 56, 204] (by decide +kernel) (by decide +kernel)
set_option maxRecDepth 20000 in
theorem gX9_init_X5_init : GoodIn wsX9_init (wsX5_init) := ggX9_init_X5_init
theorem dX9_init_0 : decode cX9_init 0 = .ok (.aload_n 0, 1) := by decide +kernel
theorem dX9_init_1 : decode cX9_init 1 = .ok (.invokespecial 1, 3) := by decide +kernel
theorem dX9_init_4 : decode cX9_init 4 = .ok (.aload_n 0, 1) := by decide +kernel
theorem dX9_init_5 : decode cX9_init 5 = .ok (.new 7, 3) := by decide +kernel
theorem dX9_init_8 : decode cX9_init 8 = .ok (.dup, 1) := by decide +kernel
theorem dX9_init_9 : decode cX9_init 9 = .ok (.invokespecial 9, 3) := by decide +kernel
theorem dX9_init_12 : decode cX9_init 12 = .ok (.putfield 10, 3) := by decide +kernel
theorem dX9_init_15 : decode cX9_init 15 = .ok (.aload_n 0, 1) := by decide +kernel
theorem dX9_init_16 : decode cX9_init 16 = .ok (.new 16, 3) := by decide +kernel
theorem dX9_init_19 : decode cX9_init 19 = .ok (.dup, 1) := by decide +kernel
theorem dX9_init_20 : decode cX9_init 20 = .ok (.invokespecial 18, 3) := by decide +kernel
theorem dX9_init_23 : decode cX9_init 23 = .ok (.putfield 19, 3) := by decide +kernel
theorem dX9_init_26 : decode cX9_init 26 = .ok (.aload_n 0, 1) := by decide +kernel
theorem dX9_init_27 : decode cX9_init 27 = .ok (.new 23, 3) := by decide +kernel
theorem dX9_init_30 : decode cX9_init 30 = .ok (.dup, 1) := by decide +kernel
theorem dX9_init_31 : decode cX9_init 31 = .ok (.invokespecial 25, 3) := by decide +kernel
theorem dX9_init_34 : decode cX9_init 34 = .ok (.putfield 26, 3) := by decide +kernel
theorem dX9_init_37 : decode cX9_init 37 = .ok (.aload_n 0, 1) := by decide +kernel
theorem dX9_init_38 : decode cX9_init 38 = .ok (.new 30, 3) := by decide +kernel
theorem dX9_init_41 : decode cX9_init 41 = .ok (.dup, 1) := by decide +kernel
theorem dX9_init_42 : decode cX9_init 42 = .ok (.invokespecial 32, 3) := by decide +kernel
theorem dX9_init_45 : decode cX9_init 45 = .ok (.putfield 33, 3) := by decide +kernel
theorem dX9_init_48 : decode cX9_init 48 = .ok (.aload_n 0, 1) := by decide +kernel
theorem dX9_init_49 : decode cX9_init 49 = .ok (.new 37, 3) := by decide +kernel
theorem dX9_init_52 : decode cX9_init 52 = .ok (.dup, 1) := by decide +kernel
theorem dX9_init_53 : decode cX9_init 53 = .ok (.invokespecial 39, 3) := by decide +kernel
theorem dX9_init_56 : decode cX9_init 56 = .ok (.putfield 40, 3) := by decide +kernel
theorem dX9_init_59 : decode cX9_init 59 = .ok (.aload_n 0, 1) := by decide +kernel
theorem dX9_init_60 : decode cX9_init 60 = .ok (.new 44, 3) := by decide +kernel
theorem dX9_init_63 : decode cX9_init 63 = .ok (.dup, 1) := by decide +kernel
theorem dX9_init_64 : decode cX9_init 64 = .ok (.invokespecial 46, 3) := by decide +kernel
theorem dX9_init_67 : decode cX9_init 67 = .ok (.putfield 47, 3) := by decide +kernel
theorem dX9_init_70 : decode cX9_init 70 = .ok (.aload_n 0, 1) := by decide +kernel
theorem dX9_init_71 : decode cX9_init 71 = .ok (.new 51, 3) := by decide +kernel
theorem dX9_init_74 : decode cX9_init 74 = .ok (.dup, 1) := by decide +kernel
theorem dX9_init_75 : decode cX9_init 75 = .ok (.invokespecial 53, 3) := by decide +kernel
theorem dX9_init_78 : decode cX9_init 78 = .ok (.putfield 54, 3) := by decide +kernel
theorem dX9_init_81 : decode cX9_init 81 = .ok (.aload_n 0, 1) := by decide +kernel
theorem dX9_init_82 : decode cX9_init 82 = .ok (.new 58, 3) := by decide +kernel
theorem dX9_init_85 : decode cX9_init 85 = .ok (.dup, 1) := by decide +kernel
theorem dX9_init_86 : decode cX9_init 86 = .ok (.invokespecial 60, 3) := by decide +kernel
theorem dX9_init_89 : decode cX9_init 89 = .ok (.putfield 61, 3) := by decide +kernel
theorem dX9_init_92 : decode cX9_init 92 = .ok (.aload_n 0, 1) := by decide +kernel
theorem dX9_init_93 : decode cX9_init 93 = .ok (.new 65, 3) := by decide +kernel
theorem dX9_init_96 : decode cX9_init 96 = .ok (.dup, 1) := by decide +kernel
theorem dX9_init_97 : decode cX9_init 97 = .ok (.iconst 4, 1) := by decide +kernel
theorem dX9_init_98 : decode cX9_init 98 = .ok (.invokespecial 67, 3) := by decide +kernel
theorem dX9_init_101 : decode cX9_init 101 = .ok (.putfield 70, 3) := by decide +kernel
theorem dX9_init_104 : decode cX9_init 104 = .ok (.aload_n 0, 1) := by decide +kernel
theorem dX9_init_105 : decode cX9_init 105 = .ok (.new 65, 3) := by decide +kernel
theorem dX9_init_108 : decode cX9_init 108 = .ok (.dup, 1) := by decide +kernel
theorem dX9_init_109 : decode cX9_init 109 = .ok (.bipush 16, 2) := by decide +kernel
theorem dX9_init_111 : decode cX9_init 111 = .ok (.invokespecial 67, 3) := by decide +kernel
theorem dX9_init_114 : decode cX9_init 114 = .ok (.putfield 74, 3) := by decide +kernel
theorem dX9_init_117 : decode cX9_init 117 = .ok (.aload_n 0, 1) := by decide +kernel
theorem dX9_init_118 : decode cX9_init 118 = .ok (.iconst 1, 1) := by decide +kernel
theorem dX9_init_119 : decode cX9_init 119 = .ok (.putfield 77, 3) := by decide +kernel
theorem dX9_init_122 : decode cX9_init 122 = .ok (.return_, 1) := by decide +kernel
set_option maxRecDepth 20000 in
theorem ggX9_pupil_X3_enter : GoodIn wsX9_pupil wsX3_enter := goodIn_r _ [11, 12, 13, 14, 15, 16, 17, 18, 19, 20, 21, 22, 23, 24, 25, 26, 42, 43, 44, 45, 46, 47, 48, 49] (by decide +kernel) (by decide +kernel)
set_option maxRecDepth 20000 in
theorem gX9_pupil_X3_enter : GoodIn wsX9_pupil (wsV RX9 90 RX3 yX3_enter wsX3_enter) := goodIn_app (goodIn_of _ (by decide +kernel)) ggX9_pupil_X3_enter
theorem dX9_pupil_0 : decode cX9_pupil 0 = .ok (.iload_n 1, 1) := by decide +kernel
theorem dX9_pupil_1 : decode cX9_pupil 1 = .ok (.ifCond .lt 18, 3) := by decide +kernel
theorem dX9_pupil_4 : decode cX9_pupil 4 = .ok (.iload_n 1, 1) := by decide +kernel
theorem dX9_pupil_5 : decode cX9_pupil 5 = .ok (.iconst 4, 1) := by decide +kernel
theorem dX9_pupil_6 : decode cX9_pupil 6 = .ok (.if_icmp .gt 13, 3) := by decide +kernel
theorem dX9_pupil_9 : decode cX9_pupil 9 = .ok (.iload_n 2, 1) := by decide +kernel
theorem dX9_pupil_10 : decode cX9_pupil 10 = .ok (.ifCond .lt 9, 3) := by decide +kernel
theorem dX9_pupil_13 : decode cX9_pupil 13 = .ok (.iload_n 2, 1) := by decide +kernel
theorem dX9_pupil_14 : decode cX9_pupil 14 = .ok (.bipush 15, 2) := by decide +kernel
theorem dX9_pupil_16 : decode cX9_pupil 16 = .ok (.if_icmp .le 11, 3) := by decide +kernel
theorem dX9_pupil_19 : decode cX9_pupil 19 = .ok (.new 81, 3) := by decide +kernel
theorem dX9_pupil_22 : decode cX9_pupil 22 = .ok (.dup, 1) := by decide +kernel
theorem dX9_pupil_23 : decode cX9_pupil 23 = .ok (.invokespecial 83, 3) := by decide +kernel
theorem dX9_pupil_26 : decode cX9_pupil 26 = .ok (.athrow, 1) := by decide +kernel
theorem dX9_pupil_27 : decode cX9_pupil 27 = .ok (.aload_n 0, 1) := by decide +kernel
theorem dX9_pupil_28 : decode cX9_pupil 28 = .ok (.getfield 33, 3) := by decide +kernel
theorem dX9_pupil_31 : decode cX9_pupil 31 = .ok (.getfield 84, 3) := by decide +kernel
theorem dX9_pupil_34 : decode cX9_pupil 34 = .ok (.bipush 16, 2) := by decide +kernel
theorem dX9_pupil_36 : decode cX9_pupil 36 = .ok (.if_icmp .lt 11, 3) := by decide +kernel
theorem dX9_pupil_39 : decode cX9_pupil 39 = .ok (.new 87, 3) := by decide +kernel
theorem dX9_pupil_42 : decode cX9_pupil 42 = .ok (.dup, 1) := by decide +kernel
theorem dX9_pupil_43 : decode cX9_pupil 43 = .ok (.invokespecial 89, 3) := by decide +kernel
theorem dX9_pupil_46 : decode cX9_pupil 46 = .ok (.athrow, 1) := by decide +kernel
theorem dX9_pupil_47 : decode cX9_pupil 47 = .ok (.aload_n 0, 1) := by decide +kernel
theorem dX9_pupil_48 : decode cX9_pupil 48 = .ok (.getfield 33, 3) := by decide +kernel
theorem dX9_pupil_51 : decode cX9_pupil 51 = .ok (.iload_n 1, 1) := by decide +kernel
theorem dX9_pupil_52 : decode cX9_pupil 52 = .ok (.iload_n 2, 1) := by decide +kernel
theorem dX9_pupil_53 : decode cX9_pupil 53 = .ok (.iload_n 3, 1) := by decide +kernel
theorem dX9_pupil_54 : decode cX9_pupil 54 = .ok (.invokevirtual 90, 3) := by decide +kernel
theorem dX9_pupil_57 : decode cX9_pupil 57 = .ok (.ireturn, 1) := by decide +kernel
set_option maxRecDepth 20000 in
theorem ggX9_gift_X3_has : GoodIn wsX9_gift wsX3_has := goodIn_r _ [11, 12, 38, 39, 40, 41, 42, 43, 44] (by decide +kernel) (by decide +kernel)
set_option maxRecDepth 20000 in
theorem gX9_gift_X3_has : GoodIn wsX9_gift (wsV RX9 94 RX3 yX3_has wsX3_has) := goodIn_app (goodIn_of _ (by decide +kernel)) ggX9_gift_X3_has
set_option maxRecDepth 20000 in
theorem ggX9_gift_X5_get : GoodIn wsX9_gift wsX5_get := goodIn_r _ [17, 18, 45] (by decide +kernel) (by decide +kernel)
set_option maxRecDepth 20000 in
theorem gX9_gift_X5_get : GoodIn wsX9_gift (wsV RX9 104 RX5 yX5_get wsX5_get) := goodIn_app (goodIn_of _ (by decide +kernel)) ggX9_gift_X5_get
set_option maxRecDepth 20000 in
theorem ggX9_gift_X5_set : GoodIn wsX9_gift wsX5_set := goodIn_r _ [22, 18, 45] (by decide +kernel) (by decide +kernel)
set_option maxRecDepth 20000 in
theorem gX9_gift_X5_set : GoodIn wsX9_gift (wsV RX9 108 RX5 yX5_set wsX5_set) := goodIn_app (goodIn_of _ (by decide +kernel)) ggX9_gift_X5_set
theorem dX9_gift_0 : decode cX9_gift 0 = .ok (.aload_n 0, 1) := by decide +kernel
theorem dX9_gift_1 : decode cX9_gift 1 = .ok (.getfield 33, 3) := by decide +kernel
theorem dX9_gift_4 : decode cX9_gift 4 = .ok (.iload_n 1, 1) := by decide +kernel
theorem dX9_gift_5 : decode cX9_gift 5 = .ok (.invokevirtual 94, 3) := by decide +kernel
theorem dX9_gift_8 : decode cX9_gift 8 = .ok (.ifCond .ne 11, 3) := by decide +kernel
theorem dX9_gift_11 : decode cX9_gift 11 = .ok (.new 98, 3) := by decide +kernel
theorem dX9_gift_14 : decode cX9_gift 14 = .ok (.dup, 1) := by decide +kernel
theorem dX9_gift_15 : decode cX9_gift 15 = .ok (.invokespecial 100, 3) := by decide +kernel
theorem dX9_gift_18 : decode cX9_gift 18 = .ok (.athrow, 1) := by decide +kernel
theorem dX9_gift_19 : decode cX9_gift 19 = .ok (.iload_n 2, 1) := by decide +kernel
theorem dX9_gift_20 : decode cX9_gift 20 = .ok (.ifCond .lt 9, 3) := by decide +kernel
theorem dX9_gift_23 : decode cX9_gift 23 = .ok (.iload_n 2, 1) := by decide +kernel
theorem dX9_gift_24 : decode cX9_gift 24 = .ok (.bipush 9, 2) := by decide +kernel
theorem dX9_gift_26 : decode cX9_gift 26 = .ok (.if_icmp .le 11, 3) := by decide +kernel
theorem dX9_gift_29 : decode cX9_gift 29 = .ok (.new 81, 3) := by decide +kernel
theorem dX9_gift_32 : decode cX9_gift 32 = .ok (.dup, 1) := by decide +kernel
theorem dX9_gift_33 : decode cX9_gift 33 = .ok (.invokespecial 83, 3) := by decide +kernel
theorem dX9_gift_36 : decode cX9_gift 36 = .ok (.athrow, 1) := by decide +kernel
theorem dX9_gift_37 : decode cX9_gift 37 = .ok (.aload_n 0, 1) := by decide +kernel
theorem dX9_gift_38 : decode cX9_gift 38 = .ok (.getfield 33, 3) := by decide +kernel
theorem dX9_gift_41 : decode cX9_gift 41 = .ok (.getfield 101, 3) := by decide +kernel
theorem dX9_gift_44 : decode cX9_gift 44 = .ok (.iload_n 1, 1) := by decide +kernel
theorem dX9_gift_45 : decode cX9_gift 45 = .ok (.invokevirtual 104, 3) := by decide +kernel
theorem dX9_gift_48 : decode cX9_gift 48 = .ok (.istore_n 3, 1) := by decide +kernel
theorem dX9_gift_49 : decode cX9_gift 49 = .ok (.aload_n 0, 1) := by decide +kernel
theorem dX9_gift_50 : decode cX9_gift 50 = .ok (.getfield 33, 3) := by decide +kernel
theorem dX9_gift_53 : decode cX9_gift 53 = .ok (.getfield 101, 3) := by decide +kernel
theorem dX9_gift_56 : decode cX9_gift 56 = .ok (.iload_n 1, 1) := by decide +kernel
theorem dX9_gift_57 : decode cX9_gift 57 = .ok (.iload_n 2, 1) := by decide +kernel
theorem dX9_gift_58 : decode cX9_gift 58 = .ok (.invokevirtual 108, 3) := by decide +kernel
theorem dX9_gift_61 : decode cX9_gift 61 = .ok (.iload_n 3, 1) := by decide +kernel
theorem dX9_gift_62 : decode cX9_gift 62 = .ok (.ireturn, 1) := by decide +kernel
set_option maxRecDepth 20000 in
theorem ggX9_type_X1_append : GoodIn wsX9_type wsX1_append := goodIn_r _ [11, 12, 13, 14, 15, 16, 17, 18, 19, 35, 36, 37] (by decide +kernel) (by decide +kernel)
set_option maxRecDepth 20000 in
theorem gX9_type_X1_append : GoodIn wsX9_type (wsV RX9 113 RX1 yX1_append wsX1_append) := goodIn_app (goodIn_of _ (by decide +kernel)) ggX9_type_X1_append
theorem dX9_type_0 : decode cX9_type 0 = .ok (.iload_n 1, 1) := by decide +kernel
theorem dX9_type_1 : decode cX9_type 1 = .ok (.bipush 32, 2) := by decide +kernel
theorem dX9_type_3 : decode cX9_type 3 = .ok (.if_icmp .lt 9, 3) := by decide +kernel
theorem dX9_type_6 : decode cX9_type 6 = .ok (.iload_n 1, 1) := by decide +kernel
theorem dX9_type_7 : decode cX9_type 7 = .ok (.bipush 126, 2) := by decide +kernel
theorem dX9_type_9 : decode cX9_type 9 = .ok (.if_icmp .le 11, 3) := by decide +kernel
theorem dX9_type_12 : decode cX9_type 12 = .ok (.new 81, 3) := by decide +kernel
theorem dX9_type_15 : decode cX9_type 15 = .ok (.dup, 1) := by decide +kernel
theorem dX9_type_16 : decode cX9_type 16 = .ok (.invokespecial 83, 3) := by decide +kernel
theorem dX9_type_19 : decode cX9_type 19 = .ok (.athrow, 1) := by decide +kernel
theorem dX9_type_20 : decode cX9_type 20 = .ok (.aload_n 0, 1) := by decide +kernel
theorem dX9_type_21 : decode cX9_type 21 = .ok (.getfield 10, 3) := by decide +kernel
theorem dX9_type_24 : decode cX9_type 24 = .ok (.getfield 112, 3) := by decide +kernel
theorem dX9_type_27 : decode cX9_type 27 = .ok (.bipush 40, 2) := by decide +kernel
theorem dX9_type_29 : decode cX9_type 29 = .ok (.if_icmp .lt 11, 3) := by decide +kernel
theorem dX9_type_32 : decode cX9_type 32 = .ok (.new 87, 3) := by decide +kernel
theorem dX9_type_35 : decode cX9_type 35 = .ok (.dup, 1) := by decide +kernel
theorem dX9_type_36 : decode cX9_type 36 = .ok (.invokespecial 89, 3) := by decide +kernel
theorem dX9_type_39 : decode cX9_type 39 = .ok (.athrow, 1) := by decide +kernel
theorem dX9_type_40 : decode cX9_type 40 = .ok (.aload_n 0, 1) := by decide +kernel
theorem dX9_type_41 : decode cX9_type 41 = .ok (.getfield 10, 3) := by decide +kernel
theorem dX9_type_44 : decode cX9_type 44 = .ok (.iload_n 1, 1) := by decide +kernel
theorem dX9_type_45 : decode cX9_type 45 = .ok (.invokevirtual 113, 3) := by decide +kernel
theorem dX9_type_48 : decode cX9_type 48 = .ok (.aload_n 0, 1) := by decide +kernel
theorem dX9_type_49 : decode cX9_type 49 = .ok (.getfield 10, 3) := by decide +kernel
theorem dX9_type_52 : decode cX9_type 52 = .ok (.getfield 112, 3) := by decide +kernel
theorem dX9_type_55 : decode cX9_type 55 = .ok (.ireturn, 1) := by decide +kernel
set_option maxRecDepth 20000 in
theorem ggX9_scheme_X9_isQuestion : GoodIn wsX9_scheme wsX9_isQuestion := goodIn_r _ [12] (by decide +kernel) (by decide +kernel)
set_option maxRecDepth 20000 in
theorem gX9_scheme_X9_isQuestion : GoodIn wsX9_scheme (va_wsS RX9 116 yX9_isQuestion wsX9_isQuestion) := goodIn_app (goodIn_of _ (by decide +kernel)) ggX9_scheme_X9_isQuestion
set_option maxRecDepth 20000 in
theorem ggX9_scheme_X5_get : GoodIn wsX9_scheme wsX5_get := goodIn_r _ [17, 18, 168] (by decide +kernel) (by decide +kernel)
set_option maxRecDepth 20000 in
theorem gX9_scheme_X5_get : GoodIn wsX9_scheme (wsV RX9 104 RX5 yX5_get wsX5_get) := goodIn_app (goodIn_of _ (by decide +kernel)) ggX9_scheme_X5_get
set_option maxRecDepth 20000 in
theorem ggX9_scheme_X0_faultOf : GoodIn wsX9_scheme wsX0_faultOf := goodIn_r _ [23, 24, 25, 26, 27, 28, 29, 30, 22, 31, 32, 33, 34, 35, 14, 15, 16, 17, 18, 36, 37, 38, 39, 40, 41, 42, 43, 44, 45, 46, 47, 48, 49, 50, 51, 52, 53, 54, 55, 56, 57, 58, 59, 60, 61, 62, 63, 64, 65, 66, 67, 68, 169, 170, 171, 172, 173, 174, 175, 176, 168] (by decide +kernel) (by decide +kernel)
set_option maxRecDepth 20000 in
theorem gX9_scheme_X0_faultOf : GoodIn wsX9_scheme (wsV RX9 122 RX0 yX0_faultOf wsX0_faultOf) := goodIn_app (goodIn_of _ (by decide +kernel)) ggX9_scheme_X0_faultOf
set_option maxRecDepth 20000 in
theorem ggX9_scheme_X1_clear : GoodIn wsX9_scheme wsX1_clear := goodIn_r _ [73, 74, 169, 170] (by decide +kernel) (by decide +kernel)
set_option maxRecDepth 20000 in
theorem gX9_scheme_X1_clear : GoodIn wsX9_scheme (wsV RX9 126 RX1 yX1_clear wsX1_clear) := goodIn_app (goodIn_of _ (by decide +kernel)) ggX9_scheme_X1_clear
set_option maxRecDepth 20000 in
theorem ggX9_scheme_X6_enter : GoodIn wsX9_scheme wsX6_enter := goodIn_r _ [79, 80, 81, 82, 83, 84, 85, 86, 87, 88, 89, 14, 15, 16, 17, 18, 90, 46, 47, 48, 91, 92, 93, 94, 160, 161, 162, 163, 164, 165, 166, 167, 171, 172, 173, 174, 175, 176, 168] (by decide +kernel) (by decide +kernel)
set_option maxRecDepth 20000 in
theorem gX9_scheme_X6_enter : GoodIn wsX9_scheme (wsV RX9 129 RX6 yX6_enter wsX6_enter) := goodIn_app (goodIn_of _ (by decide +kernel)) ggX9_scheme_X6_enter
set_option maxRecDepth 20000 in
theorem ggX9_scheme_X9_weighReadings : GoodIn wsX9_scheme wsX9_weighReadings := goodIn_r _ [98, 99, 100, 101, 102, 5, 103, 13, 14, 15, 16, 17, 18, 104, 105, 106, 11, 107, 108, 109, 110, 111, 112, 113, 114, 115, 116, 78, 117, 85, 80, 89, 118, 119, 120, 121, 122, 123, 124, 125, 84, 82, 126, 127, 128, 87, 129, 130, 131, 132, 133, 134, 135, 136, 90, 46, 47, 48, 91, 92, 93, 94, 137, 138, 139, 140, 141, 142, 143, 144, 145, 146, 147, 148, 149, 150, 151, 152, 153, 154, 155, 156, 157, 158, 159, 177, 178, 179, 180, 181, 182, 183, 184, 185, 186, 187, 188, 168, 160, 161, 162, 163, 164, 165, 166, 167] (by decide +kernel) (by decide +kernel)
set_option maxRecDepth 20000 in
theorem gX9_scheme_X9_weighReadings : GoodIn wsX9_scheme (wsV RX9 132 RX9 yX9_weighReadings wsX9_weighReadings) := goodIn_app (goodIn_of _ (by decide +kernel)) ggX9_scheme_X9_weighReadings
theorem dX9_scheme_0 : decode cX9_scheme 0 = .ok (.iload_n 1, 1) := by decide +kernel
theorem dX9_scheme_1 : decode cX9_scheme 1 = .ok (.invokestatic 116, 3) := by decide +kernel
theorem dX9_scheme_4 : decode cX9_scheme 4 = .ok (.ifCond .ne 11, 3) := by decide +kernel
theorem dX9_scheme_7 : decode cX9_scheme 7 = .ok (.new 98, 3) := by decide +kernel
theorem dX9_scheme_10 : decode cX9_scheme 10 = .ok (.dup, 1) := by decide +kernel
theorem dX9_scheme_11 : decode cX9_scheme 11 = .ok (.invokespecial 100, 3) := by decide +kernel
theorem dX9_scheme_14 : decode cX9_scheme 14 = .ok (.athrow, 1) := by decide +kernel
theorem dX9_scheme_15 : decode cX9_scheme 15 = .ok (.aload_n 0, 1) := by decide +kernel
theorem dX9_scheme_16 : decode cX9_scheme 16 = .ok (.getfield 26, 3) := by decide +kernel
theorem dX9_scheme_19 : decode cX9_scheme 19 = .ok (.getfield 119, 3) := by decide +kernel
theorem dX9_scheme_22 : decode cX9_scheme 22 = .ok (.iload_n 1, 1) := by decide +kernel
theorem dX9_scheme_23 : decode cX9_scheme 23 = .ok (.invokevirtual 104, 3) := by decide +kernel
theorem dX9_scheme_26 : decode cX9_scheme 26 = .ok (.bipush 6, 2) := by decide +kernel
theorem dX9_scheme_28 : decode cX9_scheme 28 = .ok (.if_icmp .lt 11, 3) := by decide +kernel
theorem dX9_scheme_31 : decode cX9_scheme 31 = .ok (.new 87, 3) := by decide +kernel
theorem dX9_scheme_34 : decode cX9_scheme 34 = .ok (.dup, 1) := by decide +kernel
theorem dX9_scheme_35 : decode cX9_scheme 35 = .ok (.invokespecial 89, 3) := by decide +kernel
theorem dX9_scheme_38 : decode cX9_scheme 38 = .ok (.athrow, 1) := by decide +kernel
theorem dX9_scheme_39 : decode cX9_scheme 39 = .ok (.aload_n 0, 1) := by decide +kernel
theorem dX9_scheme_40 : decode cX9_scheme 40 = .ok (.getfield 19, 3) := by decide +kernel
theorem dX9_scheme_43 : decode cX9_scheme 43 = .ok (.aload_n 0, 1) := by decide +kernel
theorem dX9_scheme_44 : decode cX9_scheme 44 = .ok (.getfield 10, 3) := by decide +kernel
theorem dX9_scheme_47 : decode cX9_scheme 47 = .ok (.invokevirtual 122, 3) := by decide +kernel
theorem dX9_scheme_50 : decode cX9_scheme 50 = .ok (.istore_n 2, 1) := by decide +kernel
theorem dX9_scheme_51 : decode cX9_scheme 51 = .ok (.aload_n 0, 1) := by decide +kernel
theorem dX9_scheme_52 : decode cX9_scheme 52 = .ok (.getfield 10, 3) := by decide +kernel
theorem dX9_scheme_55 : decode cX9_scheme 55 = .ok (.invokevirtual 126, 3) := by decide +kernel
theorem dX9_scheme_58 : decode cX9_scheme 58 = .ok (.iload_n 2, 1) := by decide +kernel
theorem dX9_scheme_59 : decode cX9_scheme 59 = .ok (.iconst (-1), 1) := by decide +kernel
theorem dX9_scheme_60 : decode cX9_scheme 60 = .ok (.if_icmp .eq 7, 3) := by decide +kernel
theorem dX9_scheme_63 : decode cX9_scheme 63 = .ok (.iconst (-1), 1) := by decide +kernel
theorem dX9_scheme_64 : decode cX9_scheme 64 = .ok (.iload_n 2, 1) := by decide +kernel
theorem dX9_scheme_65 : decode cX9_scheme 65 = .ok (.isub, 1) := by decide +kernel
theorem dX9_scheme_66 : decode cX9_scheme 66 = .ok (.ireturn, 1) := by decide +kernel
theorem dX9_scheme_67 : decode cX9_scheme 67 = .ok (.aload_n 0, 1) := by decide +kernel
theorem dX9_scheme_68 : decode cX9_scheme 68 = .ok (.getfield 26, 3) := by decide +kernel
theorem dX9_scheme_71 : decode cX9_scheme 71 = .ok (.iload_n 1, 1) := by decide +kernel
theorem dX9_scheme_72 : decode cX9_scheme 72 = .ok (.aload_n 0, 1) := by decide +kernel
theorem dX9_scheme_73 : decode cX9_scheme 73 = .ok (.getfield 19, 3) := by decide +kernel
theorem dX9_scheme_76 : decode cX9_scheme 76 = .ok (.invokevirtual 129, 3) := by decide +kernel
theorem dX9_scheme_79 : decode cX9_scheme 79 = .ok (.istore_n 3, 1) := by decide +kernel
theorem dX9_scheme_80 : decode cX9_scheme 80 = .ok (.aload_n 0, 1) := by decide +kernel
theorem dX9_scheme_81 : decode cX9_scheme 81 = .ok (.iload_n 1, 1) := by decide +kernel
theorem dX9_scheme_82 : decode cX9_scheme 82 = .ok (.invokevirtual 132, 3) := by decide +kernel
theorem dX9_scheme_85 : decode cX9_scheme 85 = .ok (.iload_n 3, 1) := by decide +kernel
theorem dX9_scheme_86 : decode cX9_scheme 86 = .ok (.ireturn, 1) := by decide +kernel
set_option maxRecDepth 20000 in
theorem ggX9_twice_X9_isQuestion : GoodIn wsX9_twice wsX9_isQuestion := goodIn_r _ [7] (by decide +kernel) (by decide +kernel)
set_option maxRecDepth 20000 in
theorem gX9_twice_X9_isQuestion : GoodIn wsX9_twice (va_wsS RX9 116 yX9_isQuestion wsX9_isQuestion) := goodIn_app (goodIn_of _ (by decide +kernel)) ggX9_twice_X9_isQuestion
set_option maxRecDepth 20000 in
theorem ggX9_twice_X5_is : GoodIn wsX9_twice wsX5_is := goodIn_r _ [12, 13, 33] (by decide +kernel) (by decide +kernel)
set_option maxRecDepth 20000 in
theorem gX9_twice_X5_is : GoodIn wsX9_twice (wsV RX9 135 RX5 yX5_is wsX5_is) := goodIn_app (goodIn_of _ (by decide +kernel)) ggX9_twice_X5_is
set_option maxRecDepth 20000 in
theorem ggX9_twice_X5_put : GoodIn wsX9_twice wsX5_put := goodIn_r _ [17, 13, 33] (by decide +kernel) (by decide +kernel)
set_option maxRecDepth 20000 in
theorem gX9_twice_X5_put : GoodIn wsX9_twice (wsV RX9 138 RX5 yX5_put wsX5_put) := goodIn_app (goodIn_of _ (by decide +kernel)) ggX9_twice_X5_put
theorem dX9_twice_0 : decode cX9_twice 0 = .ok (.iload_n 1, 1) := by decide +kernel
theorem dX9_twice_1 : decode cX9_twice 1 = .ok (.invokestatic 116, 3) := by decide +kernel
theorem dX9_twice_4 : decode cX9_twice 4 = .ok (.ifCond .ne 11, 3) := by decide +kernel
theorem dX9_twice_7 : decode cX9_twice 7 = .ok (.new 98, 3) := by decide +kernel
theorem dX9_twice_10 : decode cX9_twice 10 = .ok (.dup, 1) := by decide +kernel
theorem dX9_twice_11 : decode cX9_twice 11 = .ok (.invokespecial 100, 3) := by decide +kernel
theorem dX9_twice_14 : decode cX9_twice 14 = .ok (.athrow, 1) := by decide +kernel
theorem dX9_twice_15 : decode cX9_twice 15 = .ok (.aload_n 0, 1) := by decide +kernel
theorem dX9_twice_16 : decode cX9_twice 16 = .ok (.getfield 70, 3) := by decide +kernel
theorem dX9_twice_19 : decode cX9_twice 19 = .ok (.iload_n 1, 1) := by decide +kernel
theorem dX9_twice_20 : decode cX9_twice 20 = .ok (.invokevirtual 135, 3) := by decide +kernel
theorem dX9_twice_23 : decode cX9_twice 23 = .ok (.istore_n 3, 1) := by decide +kernel
theorem dX9_twice_24 : decode cX9_twice 24 = .ok (.aload_n 0, 1) := by decide +kernel
theorem dX9_twice_25 : decode cX9_twice 25 = .ok (.getfield 70, 3) := by decide +kernel
theorem dX9_twice_28 : decode cX9_twice 28 = .ok (.iload_n 1, 1) := by decide +kernel
theorem dX9_twice_29 : decode cX9_twice 29 = .ok (.iload_n 2, 1) := by decide +kernel
theorem dX9_twice_30 : decode cX9_twice 30 = .ok (.invokevirtual 138, 3) := by decide +kernel
theorem dX9_twice_33 : decode cX9_twice 33 = .ok (.iload_n 3, 1) := by decide +kernel
theorem dX9_twice_34 : decode cX9_twice 34 = .ok (.ireturn, 1) := by decide +kernel
theorem dX9_tolerance_0 : decode cX9_tolerance 0 = .ok (.iload_n 1, 1) := by decide +kernel
theorem dX9_tolerance_1 : decode cX9_tolerance 1 = .ok (.ifCond .lt 9, 3) := by decide +kernel
theorem dX9_tolerance_4 : decode cX9_tolerance 4 = .ok (.iload_n 1, 1) := by decide +kernel
theorem dX9_tolerance_5 : decode cX9_tolerance 5 = .ok (.bipush 9, 2) := by decide +kernel
theorem dX9_tolerance_7 : decode cX9_tolerance 7 = .ok (.if_icmp .le 11, 3) := by decide +kernel
theorem dX9_tolerance_10 : decode cX9_tolerance 10 = .ok (.new 81, 3) := by decide +kernel
theorem dX9_tolerance_13 : decode cX9_tolerance 13 = .ok (.dup, 1) := by decide +kernel
theorem dX9_tolerance_14 : decode cX9_tolerance 14 = .ok (.invokespecial 83, 3) := by decide +kernel
theorem dX9_tolerance_17 : decode cX9_tolerance 17 = .ok (.athrow, 1) := by decide +kernel
theorem dX9_tolerance_18 : decode cX9_tolerance 18 = .ok (.aload_n 0, 1) := by decide +kernel
theorem dX9_tolerance_19 : decode cX9_tolerance 19 = .ok (.getfield 77, 3) := by decide +kernel
theorem dX9_tolerance_22 : decode cX9_tolerance 22 = .ok (.istore_n 2, 1) := by decide +kernel
theorem dX9_tolerance_23 : decode cX9_tolerance 23 = .ok (.aload_n 0, 1) := by decide +kernel
theorem dX9_tolerance_24 : decode cX9_tolerance 24 = .ok (.iload_n 1, 1) := by decide +kernel
theorem dX9_tolerance_25 : decode cX9_tolerance 25 = .ok (.putfield 77, 3) := by decide +kernel
theorem dX9_tolerance_28 : decode cX9_tolerance 28 = .ok (.iload_n 2, 1) := by decide +kernel
theorem dX9_tolerance_29 : decode cX9_tolerance 29 = .ok (.ireturn, 1) := by decide +kernel
set_option maxRecDepth 20000 in
theorem ggX9_reader_X4_enter : GoodIn wsX9_reader wsX4_enter := goodIn_r _ [11, 12, 13, 14, 15, 16, 17, 18, 19, 20, 21, 22, 23, 24, 25, 26, 42, 43, 44, 45, 46, 47, 48, 49, 50, 51, 52, 53, 54, 55] (by decide +kernel) (by decide +kernel)
set_option maxRecDepth 20000 in
theorem gX9_reader_X4_enter : GoodIn wsX9_reader (wsV RX9 143 RX4 yX4_enter wsX4_enter) := goodIn_app (goodIn_of _ (by decide +kernel)) ggX9_reader_X4_enter
theorem dX9_reader_0 : decode cX9_reader 0 = .ok (.iload_n 1, 1) := by decide +kernel
theorem dX9_reader_1 : decode cX9_reader 1 = .ok (.iconst (-1), 1) := by decide +kernel
theorem dX9_reader_2 : decode cX9_reader 2 = .ok (.if_icmp .lt 19, 3) := by decide +kernel
theorem dX9_reader_5 : decode cX9_reader 5 = .ok (.iload_n 1, 1) := by decide +kernel
theorem dX9_reader_6 : decode cX9_reader 6 = .ok (.iconst 4, 1) := by decide +kernel
theorem dX9_reader_7 : decode cX9_reader 7 = .ok (.if_icmp .gt 14, 3) := by decide +kernel
theorem dX9_reader_10 : decode cX9_reader 10 = .ok (.iload_n 2, 1) := by decide +kernel
theorem dX9_reader_11 : decode cX9_reader 11 = .ok (.iconst 1, 1) := by decide +kernel
theorem dX9_reader_12 : decode cX9_reader 12 = .ok (.if_icmp .lt 9, 3) := by decide +kernel
theorem dX9_reader_15 : decode cX9_reader 15 = .ok (.iload_n 2, 1) := by decide +kernel
theorem dX9_reader_16 : decode cX9_reader 16 = .ok (.bipush 15, 2) := by decide +kernel
theorem dX9_reader_18 : decode cX9_reader 18 = .ok (.if_icmp .le 11, 3) := by decide +kernel
theorem dX9_reader_21 : decode cX9_reader 21 = .ok (.new 81, 3) := by decide +kernel
theorem dX9_reader_24 : decode cX9_reader 24 = .ok (.dup, 1) := by decide +kernel
theorem dX9_reader_25 : decode cX9_reader 25 = .ok (.invokespecial 83, 3) := by decide +kernel
theorem dX9_reader_28 : decode cX9_reader 28 = .ok (.athrow, 1) := by decide +kernel
theorem dX9_reader_29 : decode cX9_reader 29 = .ok (.aload_n 0, 1) := by decide +kernel
theorem dX9_reader_30 : decode cX9_reader 30 = .ok (.getfield 40, 3) := by decide +kernel
theorem dX9_reader_33 : decode cX9_reader 33 = .ok (.getfield 142, 3) := by decide +kernel
theorem dX9_reader_36 : decode cX9_reader 36 = .ok (.bipush 6, 2) := by decide +kernel
theorem dX9_reader_38 : decode cX9_reader 38 = .ok (.if_icmp .lt 11, 3) := by decide +kernel
theorem dX9_reader_41 : decode cX9_reader 41 = .ok (.new 87, 3) := by decide +kernel
theorem dX9_reader_44 : decode cX9_reader 44 = .ok (.dup, 1) := by decide +kernel
theorem dX9_reader_45 : decode cX9_reader 45 = .ok (.invokespecial 89, 3) := by decide +kernel
theorem dX9_reader_48 : decode cX9_reader 48 = .ok (.athrow, 1) := by decide +kernel
theorem dX9_reader_49 : decode cX9_reader 49 = .ok (.aload_n 0, 1) := by decide +kernel
theorem dX9_reader_50 : decode cX9_reader 50 = .ok (.getfield 40, 3) := by decide +kernel
theorem dX9_reader_53 : decode cX9_reader 53 = .ok (.iload_n 1, 1) := by decide +kernel
theorem dX9_reader_54 : decode cX9_reader 54 = .ok (.iload_n 2, 1) := by decide +kernel
theorem dX9_reader_55 : decode cX9_reader 55 = .ok (.iload_n 3, 1) := by decide +kernel
theorem dX9_reader_56 : decode cX9_reader 56 = .ok (.invokevirtual 143, 3) := by decide +kernel
theorem dX9_reader_59 : decode cX9_reader 59 = .ok (.ireturn, 1) := by decide +kernel
set_option maxRecDepth 20000 in
theorem ggX9_seed_X9_isQuestion : GoodIn wsX9_seed wsX9_isQuestion := goodIn_r _ [13] (by decide +kernel) (by decide +kernel)
set_option maxRecDepth 20000 in
theorem gX9_seed_X9_isQuestion : GoodIn wsX9_seed (va_wsS RX9 116 yX9_isQuestion wsX9_isQuestion) := goodIn_app (goodIn_of _ (by decide +kernel)) ggX9_seed_X9_isQuestion
set_option maxRecDepth 20000 in
theorem ggX9_seed_X9_arePoints : GoodIn wsX9_seed wsX9_arePoints := goodIn_r _ [16] (by decide +kernel) (by decide +kernel)
set_option maxRecDepth 20000 in
theorem gX9_seed_X9_arePoints : GoodIn wsX9_seed (va_wsS RX9 144 yX9_arePoints wsX9_arePoints) := goodIn_app (goodIn_of _ (by decide +kernel)) ggX9_seed_X9_arePoints
set_option maxRecDepth 20000 in
theorem ggX9_seed_X6_holdsFor : GoodIn wsX9_seed wsX6_holdsFor := goodIn_r _ [21, 22, 23, 24, 25, 26, 27, 28, 59, 60, 61, 62, 63, 64, 65, 66, 67] (by decide +kernel) (by decide +kernel)
set_option maxRecDepth 20000 in
theorem gX9_seed_X6_holdsFor : GoodIn wsX9_seed (wsV RX9 148 RX6 yX6_holdsFor wsX6_holdsFor) := goodIn_app (goodIn_of _ (by decide +kernel)) ggX9_seed_X6_holdsFor
set_option maxRecDepth 20000 in
theorem ggX9_seed_X7_enter : GoodIn wsX9_seed wsX7_enter := goodIn_r _ [33, 34, 35, 36, 37, 38, 39, 26, 40, 28, 56, 57, 58, 67] (by decide +kernel) (by decide +kernel)
set_option maxRecDepth 20000 in
theorem gX9_seed_X7_enter : GoodIn wsX9_seed (wsV RX9 151 RX7 yX7_enter wsX7_enter) := goodIn_app (goodIn_of _ (by decide +kernel)) ggX9_seed_X7_enter
theorem dX9_seed_0 : decode cX9_seed 0 = .ok (.iload_n 1, 1) := by decide +kernel
theorem dX9_seed_1 : decode cX9_seed 1 = .ok (.invokestatic 116, 3) := by decide +kernel
theorem dX9_seed_4 : decode cX9_seed 4 = .ok (.ifCond .ne 11, 3) := by decide +kernel
theorem dX9_seed_7 : decode cX9_seed 7 = .ok (.new 98, 3) := by decide +kernel
theorem dX9_seed_10 : decode cX9_seed 10 = .ok (.dup, 1) := by decide +kernel
theorem dX9_seed_11 : decode cX9_seed 11 = .ok (.invokespecial 100, 3) := by decide +kernel
theorem dX9_seed_14 : decode cX9_seed 14 = .ok (.athrow, 1) := by decide +kernel
theorem dX9_seed_15 : decode cX9_seed 15 = .ok (.iload_n 2, 1) := by decide +kernel
theorem dX9_seed_16 : decode cX9_seed 16 = .ok (.invokestatic 144, 3) := by decide +kernel
theorem dX9_seed_19 : decode cX9_seed 19 = .ok (.ifCond .ne 11, 3) := by decide +kernel
theorem dX9_seed_22 : decode cX9_seed 22 = .ok (.new 81, 3) := by decide +kernel
theorem dX9_seed_25 : decode cX9_seed 25 = .ok (.dup, 1) := by decide +kernel
theorem dX9_seed_26 : decode cX9_seed 26 = .ok (.invokespecial 83, 3) := by decide +kernel
theorem dX9_seed_29 : decode cX9_seed 29 = .ok (.athrow, 1) := by decide +kernel
theorem dX9_seed_30 : decode cX9_seed 30 = .ok (.aload_n 0, 1) := by decide +kernel
theorem dX9_seed_31 : decode cX9_seed 31 = .ok (.getfield 47, 3) := by decide +kernel
theorem dX9_seed_34 : decode cX9_seed 34 = .ok (.getfield 147, 3) := by decide +kernel
theorem dX9_seed_37 : decode cX9_seed 37 = .ok (.bipush 8, 2) := by decide +kernel
theorem dX9_seed_39 : decode cX9_seed 39 = .ok (.if_icmp .ge 14, 3) := by decide +kernel
theorem dX9_seed_42 : decode cX9_seed 42 = .ok (.aload_n 0, 1) := by decide +kernel
theorem dX9_seed_43 : decode cX9_seed 43 = .ok (.getfield 26, 3) := by decide +kernel
theorem dX9_seed_46 : decode cX9_seed 46 = .ok (.iload_n 1, 1) := by decide +kernel
theorem dX9_seed_47 : decode cX9_seed 47 = .ok (.invokevirtual 148, 3) := by decide +kernel
theorem dX9_seed_50 : decode cX9_seed 50 = .ok (.ifCond .ne 11, 3) := by decide +kernel
theorem dX9_seed_53 : decode cX9_seed 53 = .ok (.new 87, 3) := by decide +kernel
theorem dX9_seed_56 : decode cX9_seed 56 = .ok (.dup, 1) := by decide +kernel
theorem dX9_seed_57 : decode cX9_seed 57 = .ok (.invokespecial 89, 3) := by decide +kernel
theorem dX9_seed_60 : decode cX9_seed 60 = .ok (.athrow, 1) := by decide +kernel
theorem dX9_seed_61 : decode cX9_seed 61 = .ok (.aload_n 0, 1) := by decide +kernel
theorem dX9_seed_62 : decode cX9_seed 62 = .ok (.getfield 47, 3) := by decide +kernel
theorem dX9_seed_65 : decode cX9_seed 65 = .ok (.iload_n 1, 1) := by decide +kernel
theorem dX9_seed_66 : decode cX9_seed 66 = .ok (.iload_n 2, 1) := by decide +kernel
theorem dX9_seed_67 : decode cX9_seed 67 = .ok (.invokevirtual 151, 3) := by decide +kernel
theorem dX9_seed_70 : decode cX9_seed 70 = .ok (.ireturn, 1) := by decide +kernel
set_option maxRecDepth 20000 in
theorem ggX9_next_X4_has : GoodIn wsX9_next wsX4_has := goodIn_r _ [12, 13, 173, 174, 175, 176, 177, 178, 179, 180, 181, 182, 183, 184, 185] (by decide +kernel) (by decide +kernel)
set_option maxRecDepth 20000 in
theorem gX9_next_X4_has : GoodIn wsX9_next (wsV RX9 154 RX4 yX4_has wsX4_has) := goodIn_app (goodIn_of _ (by decide +kernel)) ggX9_next_X4_has
set_option maxRecDepth 20000 in
theorem ggX9_next_X5_is : GoodIn wsX9_next wsX5_is := goodIn_r _ [18, 19, 186] (by decide +kernel) (by decide +kernel)
set_option maxRecDepth 20000 in
theorem gX9_next_X5_is : GoodIn wsX9_next (wsV RX9 135 RX5 yX5_is wsX5_is) := goodIn_app (goodIn_of _ (by decide +kernel)) ggX9_next_X5_is
set_option maxRecDepth 20000 in
theorem ggX9_next_X5_get : GoodIn wsX9_next wsX5_get := goodIn_r _ [23, 19, 186] (by decide +kernel) (by decide +kernel)
set_option maxRecDepth 20000 in
theorem gX9_next_X5_get : GoodIn wsX9_next (wsV RX9 104 RX5 yX5_get wsX5_get) := goodIn_app (goodIn_of _ (by decide +kernel)) ggX9_next_X5_get
set_option maxRecDepth 20000 in
theorem ggX9_next_X9_giveWhatIsNext : GoodIn wsX9_next wsX9_giveWhatIsNext := goodIn_r _ [28, 5, 29, 30, 31, 32, 33, 27, 34, 35, 36, 37, 20, 21, 22, 17, 23, 19, 38, 39, 40, 11, 41, 42, 43, 44, 45, 46, 47, 48, 49, 50, 51, 52, 53, 54, 55, 56, 57, 58, 59, 60, 61, 62, 63, 64, 14, 15, 16, 18, 65, 66, 67, 68, 69, 70, 71, 72, 73, 74, 75, 76, 77, 78, 79, 80, 81, 82, 83, 84, 85, 86, 87, 88, 89, 90, 91, 92, 93, 94, 95, 96, 97, 98, 99, 100, 101, 102, 103, 104, 105, 106, 107, 108, 109, 110, 111, 112, 113, 114, 115, 116, 117, 118, 119, 120, 121, 122, 123, 124, 125, 126, 127, 128, 129, 130, 131, 132, 133, 134, 135, 136, 137, 138, 139, 140, 141, 142, 143, 144, 145, 146, 147, 13, 148, 149, 150, 151, 152, 153, 154, 155, 156, 157, 158, 159, 160, 161, 162, 163, 164, 165, 166, 167, 168, 169, 170, 171, 172, 187, 188, 189, 173, 174, 175, 176, 177, 178, 179, 180, 181, 182, 183, 184, 185, 186, 190, 191, 192, 193, 194, 195, 196, 197, 198, 199, 200, 201, 202, 203, 204, 205, 206, 207, 208, 209, 210, 211, 212, 213, 214, 215, 216, 217, 218, 219, 220, 221, 222, 223] (by decide +kernel) (by decide +kernel)
set_option maxRecDepth 20000 in
theorem gX9_next_X9_giveWhatIsNext : GoodIn wsX9_next (wsV RX9 161 RX9 yX9_giveWhatIsNext wsX9_giveWhatIsNext) := goodIn_app (goodIn_of _ (by decide +kernel)) ggX9_next_X9_giveWhatIsNext
theorem dX9_next_0 : decode cX9_next 0 = .ok (.aload_n 0, 1) := by decide +kernel
theorem dX9_next_1 : decode cX9_next 1 = .ok (.getfield 40, 3) := by decide +kernel
theorem dX9_next_4 : decode cX9_next 4 = .ok (.iload_n 1, 1) := by decide +kernel
theorem dX9_next_5 : decode cX9_next 5 = .ok (.invokevirtual 154, 3) := by decide +kernel
theorem dX9_next_8 : decode cX9_next 8 = .ok (.ifCond .ne 11, 3) := by decide +kernel
theorem dX9_next_11 : decode cX9_next 11 = .ok (.new 98, 3) := by decide +kernel
theorem dX9_next_14 : decode cX9_next 14 = .ok (.dup, 1) := by decide +kernel
theorem dX9_next_15 : decode cX9_next 15 = .ok (.invokespecial 100, 3) := by decide +kernel
theorem dX9_next_18 : decode cX9_next 18 = .ok (.athrow, 1) := by decide +kernel
theorem dX9_next_19 : decode cX9_next 19 = .ok (.aload_n 0, 1) := by decide +kernel
theorem dX9_next_20 : decode cX9_next 20 = .ok (.getfield 40, 3) := by decide +kernel
theorem dX9_next_23 : decode cX9_next 23 = .ok (.getfield 155, 3) := by decide +kernel
theorem dX9_next_26 : decode cX9_next 26 = .ok (.iload_n 1, 1) := by decide +kernel
theorem dX9_next_27 : decode cX9_next 27 = .ok (.invokevirtual 135, 3) := by decide +kernel
theorem dX9_next_30 : decode cX9_next 30 = .ok (.ifCond .eq 11, 3) := by decide +kernel
theorem dX9_next_33 : decode cX9_next 33 = .ok (.new 87, 3) := by decide +kernel
theorem dX9_next_36 : decode cX9_next 36 = .ok (.dup, 1) := by decide +kernel
theorem dX9_next_37 : decode cX9_next 37 = .ok (.invokespecial 89, 3) := by decide +kernel
theorem dX9_next_40 : decode cX9_next 40 = .ok (.athrow, 1) := by decide +kernel
theorem dX9_next_41 : decode cX9_next 41 = .ok (.aload_n 0, 1) := by decide +kernel
theorem dX9_next_42 : decode cX9_next 42 = .ok (.getfield 40, 3) := by decide +kernel
theorem dX9_next_45 : decode cX9_next 45 = .ok (.getfield 158, 3) := by decide +kernel
theorem dX9_next_48 : decode cX9_next 48 = .ok (.iload_n 1, 1) := by decide +kernel
theorem dX9_next_49 : decode cX9_next 49 = .ok (.invokevirtual 104, 3) := by decide +kernel
theorem dX9_next_52 : decode cX9_next 52 = .ok (.iconst (-1), 1) := by decide +kernel
theorem dX9_next_53 : decode cX9_next 53 = .ok (.if_icmp .ne 8, 3) := by decide +kernel
theorem dX9_next_56 : decode cX9_next 56 = .ok (.aload_n 0, 1) := by decide +kernel
theorem dX9_next_57 : decode cX9_next 57 = .ok (.iload_n 1, 1) := by decide +kernel
theorem dX9_next_58 : decode cX9_next 58 = .ok (.invokevirtual 161, 3) := by decide +kernel
theorem dX9_next_61 : decode cX9_next 61 = .ok (.aload_n 0, 1) := by decide +kernel
theorem dX9_next_62 : decode cX9_next 62 = .ok (.getfield 40, 3) := by decide +kernel
theorem dX9_next_65 : decode cX9_next 65 = .ok (.getfield 158, 3) := by decide +kernel
theorem dX9_next_68 : decode cX9_next 68 = .ok (.iload_n 1, 1) := by decide +kernel
theorem dX9_next_69 : decode cX9_next 69 = .ok (.invokevirtual 104, 3) := by decide +kernel
theorem dX9_next_72 : decode cX9_next 72 = .ok (.ireturn, 1) := by decide +kernel
set_option maxRecDepth 20000 in
theorem ggX9_read_X4_has : GoodIn wsX9_read wsX4_has := goodIn_r _ [15, 16, 160, 161, 162, 163, 164, 165, 166, 167, 168, 169, 170, 171, 172] (by decide +kernel) (by decide +kernel)
set_option maxRecDepth 20000 in
theorem gX9_read_X4_has : GoodIn wsX9_read (wsV RX9 154 RX4 yX4_has wsX4_has) := goodIn_app (goodIn_of _ (by decide +kernel)) ggX9_read_X4_has
set_option maxRecDepth 20000 in
theorem ggX9_read_X9_arePoints : GoodIn wsX9_read wsX9_arePoints := goodIn_r _ [20] (by decide +kernel) (by decide +kernel)
set_option maxRecDepth 20000 in
theorem gX9_read_X9_arePoints : GoodIn wsX9_read (va_wsS RX9 144 yX9_arePoints wsX9_arePoints) := goodIn_app (goodIn_of _ (by decide +kernel)) ggX9_read_X9_arePoints
set_option maxRecDepth 20000 in
theorem ggX9_read_X5_get : GoodIn wsX9_read wsX5_get := goodIn_r _ [25, 26, 185] (by decide +kernel) (by decide +kernel)
set_option maxRecDepth 20000 in
theorem gX9_read_X5_get : GoodIn wsX9_read (wsV RX9 104 RX5 yX5_get wsX5_get) := goodIn_app (goodIn_of _ (by decide +kernel)) ggX9_read_X5_get
set_option maxRecDepth 20000 in
theorem ggX9_read_X9_readSeed : GoodIn wsX9_read wsX9_readSeed := goodIn_r _ [30, 7, 31, 32, 33, 34, 35, 36, 9, 10, 21, 22, 23, 24, 25, 26, 37, 38, 39, 40, 41, 42, 43, 44, 45, 46, 47, 48, 49, 50, 51, 52, 53, 54, 55, 56, 57, 58, 59, 60, 61, 62, 63, 64, 65, 66, 67, 68, 69, 70, 71, 72, 73, 74, 75, 76, 77, 78, 19, 79, 80, 81, 82, 83, 84, 85, 86, 87, 88, 89, 90, 91, 92, 93, 94, 95, 96, 97, 98, 14, 99, 100, 101, 102, 103, 104, 105, 106, 107, 145, 146, 147, 148, 149, 150, 151, 152, 153, 154, 155, 156, 157, 158, 159, 160, 161, 162, 163, 164, 165, 166, 167, 168, 169, 170, 171, 172, 186, 187, 188, 173, 174, 175, 176, 177, 178, 179, 180, 181, 182, 183, 184, 185, 189, 190, 191, 192, 193, 194, 195, 196] (by decide +kernel) (by decide +kernel)
set_option maxRecDepth 20000 in
theorem gX9_read_X9_readSeed : GoodIn wsX9_read (wsV RX9 165 RX9 yX9_readSeed wsX9_readSeed) := goodIn_app (goodIn_of _ (by decide +kernel)) ggX9_read_X9_readSeed
set_option maxRecDepth 20000 in
theorem ggX9_read_X9_readAnswer : GoodIn wsX9_read wsX9_readAnswer := goodIn_r _ [111, 7, 8, 34, 9, 112, 113, 114, 115, 88, 116, 117, 21, 22, 23, 24, 25, 26, 118, 119, 120, 40, 121, 122, 42, 43, 37, 38, 39, 41, 44, 45, 46, 47, 48, 49, 50, 51, 52, 53, 54, 55, 56, 57, 58, 59, 60, 61, 62, 63, 64, 65, 66, 67, 68, 69, 70, 71, 72, 73, 74, 75, 76, 123, 124, 19, 125, 126, 127, 128, 129, 130, 131, 132, 133, 134, 135, 136, 137, 138, 139, 140, 94, 141, 142, 143, 144, 90, 91, 92, 93, 96, 97, 98, 14, 99, 100, 101, 95, 145, 146, 147, 148, 149, 150, 151, 152, 153, 154, 155, 156, 157, 158, 159, 160, 161, 162, 163, 164, 165, 166, 167, 168, 169, 170, 171, 172, 173, 174, 175, 176, 177, 178, 179, 180, 181, 182, 183, 184, 185, 189, 190, 191, 192, 193, 194, 195, 196] (by decide +kernel) (by decide +kernel)
set_option maxRecDepth 20000 in
theorem gX9_read_X9_readAnswer : GoodIn wsX9_read (wsV RX9 168 RX9 yX9_readAnswer wsX9_readAnswer) := goodIn_app (goodIn_of _ (by decide +kernel)) ggX9_read_X9_readAnswer
theorem dX9_read_0 : decode cX9_read 0 = .ok (.aload_n 0, 1) := by decide +kernel
theorem dX9_read_1 : decode cX9_read 1 = .ok (.getfield 40, 3) := by decide +kernel
theorem dX9_read_4 : decode cX9_read 4 = .ok (.iload_n 1, 1) := by decide +kernel
theorem dX9_read_5 : decode cX9_read 5 = .ok (.invokevirtual 154, 3) := by decide +kernel
theorem dX9_read_8 : decode cX9_read 8 = .ok (.ifCond .ne 11, 3) := by decide +kernel
theorem dX9_read_11 : decode cX9_read 11 = .ok (.new 98, 3) := by decide +kernel
theorem dX9_read_14 : decode cX9_read 14 = .ok (.dup, 1) := by decide +kernel
theorem dX9_read_15 : decode cX9_read 15 = .ok (.invokespecial 100, 3) := by decide +kernel
theorem dX9_read_18 : decode cX9_read 18 = .ok (.athrow, 1) := by decide +kernel
theorem dX9_read_19 : decode cX9_read 19 = .ok (.iload_n 2, 1) := by decide +kernel
theorem dX9_read_20 : decode cX9_read 20 = .ok (.invokestatic 144, 3) := by decide +kernel
theorem dX9_read_23 : decode cX9_read 23 = .ok (.ifCond .ne 11, 3) := by decide +kernel
theorem dX9_read_26 : decode cX9_read 26 = .ok (.new 81, 3) := by decide +kernel
theorem dX9_read_29 : decode cX9_read 29 = .ok (.dup, 1) := by decide +kernel
theorem dX9_read_30 : decode cX9_read 30 = .ok (.invokespecial 83, 3) := by decide +kernel
theorem dX9_read_33 : decode cX9_read 33 = .ok (.athrow, 1) := by decide +kernel
theorem dX9_read_34 : decode cX9_read 34 = .ok (.aload_n 0, 1) := by decide +kernel
theorem dX9_read_35 : decode cX9_read 35 = .ok (.getfield 40, 3) := by decide +kernel
theorem dX9_read_38 : decode cX9_read 38 = .ok (.getfield 158, 3) := by decide +kernel
theorem dX9_read_41 : decode cX9_read 41 = .ok (.iload_n 1, 1) := by decide +kernel
theorem dX9_read_42 : decode cX9_read 42 = .ok (.invokevirtual 104, 3) := by decide +kernel
theorem dX9_read_45 : decode cX9_read 45 = .ok (.istore_n 3, 1) := by decide +kernel
theorem dX9_read_46 : decode cX9_read 46 = .ok (.iload_n 3, 1) := by decide +kernel
theorem dX9_read_47 : decode cX9_read 47 = .ok (.sipush 1000, 3) := by decide +kernel
theorem dX9_read_50 : decode cX9_read 50 = .ok (.if_icmp .lt 7, 3) := by decide +kernel
theorem dX9_read_53 : decode cX9_read 53 = .ok (.iconst 1, 1) := by decide +kernel
theorem dX9_read_54 : decode cX9_read 54 = .ok (.goto 4, 3) := by decide +kernel
theorem dX9_read_57 : decode cX9_read 57 = .ok (.iconst 0, 1) := by decide +kernel
theorem dX9_read_58 : decode cX9_read 58 = .ok (.istore 4, 2) := by decide +kernel
theorem dX9_read_60 : decode cX9_read 60 = .ok (.iload_n 3, 1) := by decide +kernel
theorem dX9_read_61 : decode cX9_read 61 = .ok (.iconst (-1), 1) := by decide +kernel
theorem dX9_read_62 : decode cX9_read 62 = .ok (.if_icmp .eq 21, 3) := by decide +kernel
theorem dX9_read_65 : decode cX9_read 65 = .ok (.iload 4, 2) := by decide +kernel
theorem dX9_read_67 : decode cX9_read 67 = .ok (.ifCond .ne 24, 3) := by decide +kernel
theorem dX9_read_70 : decode cX9_read 70 = .ok (.aload_n 0, 1) := by decide +kernel
theorem dX9_read_71 : decode cX9_read 71 = .ok (.getfield 54, 3) := by decide +kernel
theorem dX9_read_74 : decode cX9_read 74 = .ok (.getfield 164, 3) := by decide +kernel
theorem dX9_read_77 : decode cX9_read 77 = .ok (.sipush 300, 3) := by decide +kernel
theorem dX9_read_80 : decode cX9_read 80 = .ok (.if_icmp .lt 11, 3) := by decide +kernel
theorem dX9_read_83 : decode cX9_read 83 = .ok (.new 87, 3) := by decide +kernel
theorem dX9_read_86 : decode cX9_read 86 = .ok (.dup, 1) := by decide +kernel
theorem dX9_read_87 : decode cX9_read 87 = .ok (.invokespecial 89, 3) := by decide +kernel
theorem dX9_read_90 : decode cX9_read 90 = .ok (.athrow, 1) := by decide +kernel
theorem dX9_read_91 : decode cX9_read 91 = .ok (.iload 4, 2) := by decide +kernel
theorem dX9_read_93 : decode cX9_read 93 = .ok (.ifCond .eq 12, 3) := by decide +kernel
theorem dX9_read_96 : decode cX9_read 96 = .ok (.aload_n 0, 1) := by decide +kernel
theorem dX9_read_97 : decode cX9_read 97 = .ok (.iload_n 1, 1) := by decide +kernel
theorem dX9_read_98 : decode cX9_read 98 = .ok (.iload_n 2, 1) := by decide +kernel
theorem dX9_read_99 : decode cX9_read 99 = .ok (.invokevirtual 165, 3) := by decide +kernel
theorem dX9_read_102 : decode cX9_read 102 = .ok (.goto 9, 3) := by decide +kernel
theorem dX9_read_105 : decode cX9_read 105 = .ok (.aload_n 0, 1) := by decide +kernel
theorem dX9_read_106 : decode cX9_read 106 = .ok (.iload_n 1, 1) := by decide +kernel
theorem dX9_read_107 : decode cX9_read 107 = .ok (.iload_n 2, 1) := by decide +kernel
theorem dX9_read_108 : decode cX9_read 108 = .ok (.invokevirtual 168, 3) := by decide +kernel
theorem dX9_read_111 : decode cX9_read 111 = .ok (.ireturn, 1) := by decide +kernel
set_option maxRecDepth 20000 in
theorem ggX9_goOn_X4_has : GoodIn wsX9_goOn wsX4_has := goodIn_r _ [14, 15, 55, 56, 57, 58, 59, 60, 61, 62, 63, 64, 65, 66, 67] (by decide +kernel) (by decide +kernel)
set_option maxRecDepth 20000 in
theorem gX9_goOn_X4_has : GoodIn wsX9_goOn (wsV RX9 154 RX4 yX4_has wsX4_has) := goodIn_app (goodIn_of _ (by decide +kernel)) ggX9_goOn_X4_has
set_option maxRecDepth 20000 in
theorem ggX9_goOn_X5_is : GoodIn wsX9_goOn wsX5_is := goodIn_r _ [20, 21, 80] (by decide +kernel) (by decide +kernel)
set_option maxRecDepth 20000 in
theorem gX9_goOn_X5_is : GoodIn wsX9_goOn (wsV RX9 135 RX5 yX5_is wsX5_is) := goodIn_app (goodIn_of _ (by decide +kernel)) ggX9_goOn_X5_is
set_option maxRecDepth 20000 in
theorem ggX9_goOn_X5_put : GoodIn wsX9_goOn wsX5_put := goodIn_r _ [25, 21, 80] (by decide +kernel) (by decide +kernel)
set_option maxRecDepth 20000 in
theorem gX9_goOn_X5_put : GoodIn wsX9_goOn (wsV RX9 138 RX5 yX5_put wsX5_put) := goodIn_app (goodIn_of _ (by decide +kernel)) ggX9_goOn_X5_put
set_option maxRecDepth 20000 in
theorem ggX9_goOn_X4_startAnew : GoodIn wsX9_goOn wsX4_startAnew := goodIn_r _ [29, 30, 31, 32, 33, 34, 19, 35, 21, 55, 56, 57, 58, 59, 60, 61, 62, 63, 64, 65, 66, 67, 80] (by decide +kernel) (by decide +kernel)
set_option maxRecDepth 20000 in
theorem gX9_goOn_X4_startAnew : GoodIn wsX9_goOn (wsV RX9 171 RX4 yX4_startAnew wsX4_startAnew) := goodIn_app (goodIn_of _ (by decide +kernel)) ggX9_goOn_X4_startAnew
set_option maxRecDepth 20000 in
theorem ggX9_goOn_X5_get : GoodIn wsX9_goOn wsX5_get := goodIn_r _ [39, 21, 80] (by decide +kernel) (by decide +kernel)
set_option maxRecDepth 20000 in
theorem gX9_goOn_X5_get : GoodIn wsX9_goOn (wsV RX9 104 RX5 yX5_get wsX5_get) := goodIn_app (goodIn_of _ (by decide +kernel)) ggX9_goOn_X5_get
theorem dX9_goOn_0 : decode cX9_goOn 0 = .ok (.aload_n 0, 1) := by decide +kernel
theorem dX9_goOn_1 : decode cX9_goOn 1 = .ok (.getfield 40, 3) := by decide +kernel
theorem dX9_goOn_4 : decode cX9_goOn 4 = .ok (.iload_n 1, 1) := by decide +kernel
theorem dX9_goOn_5 : decode cX9_goOn 5 = .ok (.invokevirtual 154, 3) := by decide +kernel
theorem dX9_goOn_8 : decode cX9_goOn 8 = .ok (.ifCond .ne 11, 3) := by decide +kernel
theorem dX9_goOn_11 : decode cX9_goOn 11 = .ok (.new 98, 3) := by decide +kernel
theorem dX9_goOn_14 : decode cX9_goOn 14 = .ok (.dup, 1) := by decide +kernel
theorem dX9_goOn_15 : decode cX9_goOn 15 = .ok (.invokespecial 100, 3) := by decide +kernel
theorem dX9_goOn_18 : decode cX9_goOn 18 = .ok (.athrow, 1) := by decide +kernel
theorem dX9_goOn_19 : decode cX9_goOn 19 = .ok (.aload_n 0, 1) := by decide +kernel
theorem dX9_goOn_20 : decode cX9_goOn 20 = .ok (.getfield 40, 3) := by decide +kernel
theorem dX9_goOn_23 : decode cX9_goOn 23 = .ok (.getfield 155, 3) := by decide +kernel
theorem dX9_goOn_26 : decode cX9_goOn 26 = .ok (.iload_n 1, 1) := by decide +kernel
theorem dX9_goOn_27 : decode cX9_goOn 27 = .ok (.invokevirtual 135, 3) := by decide +kernel
theorem dX9_goOn_30 : decode cX9_goOn 30 = .ok (.ifCond .ne 11, 3) := by decide +kernel
theorem dX9_goOn_33 : decode cX9_goOn 33 = .ok (.new 87, 3) := by decide +kernel
theorem dX9_goOn_36 : decode cX9_goOn 36 = .ok (.dup, 1) := by decide +kernel
theorem dX9_goOn_37 : decode cX9_goOn 37 = .ok (.invokespecial 89, 3) := by decide +kernel
theorem dX9_goOn_40 : decode cX9_goOn 40 = .ok (.athrow, 1) := by decide +kernel
theorem dX9_goOn_41 : decode cX9_goOn 41 = .ok (.aload_n 0, 1) := by decide +kernel
theorem dX9_goOn_42 : decode cX9_goOn 42 = .ok (.getfield 40, 3) := by decide +kernel
theorem dX9_goOn_45 : decode cX9_goOn 45 = .ok (.getfield 155, 3) := by decide +kernel
theorem dX9_goOn_48 : decode cX9_goOn 48 = .ok (.iload_n 1, 1) := by decide +kernel
theorem dX9_goOn_49 : decode cX9_goOn 49 = .ok (.iconst 0, 1) := by decide +kernel
theorem dX9_goOn_50 : decode cX9_goOn 50 = .ok (.invokevirtual 138, 3) := by decide +kernel
theorem dX9_goOn_53 : decode cX9_goOn 53 = .ok (.aload_n 0, 1) := by decide +kernel
theorem dX9_goOn_54 : decode cX9_goOn 54 = .ok (.getfield 40, 3) := by decide +kernel
theorem dX9_goOn_57 : decode cX9_goOn 57 = .ok (.iload_n 1, 1) := by decide +kernel
theorem dX9_goOn_58 : decode cX9_goOn 58 = .ok (.aload_n 0, 1) := by decide +kernel
theorem dX9_goOn_59 : decode cX9_goOn 59 = .ok (.getfield 54, 3) := by decide +kernel
theorem dX9_goOn_62 : decode cX9_goOn 62 = .ok (.getfield 164, 3) := by decide +kernel
theorem dX9_goOn_65 : decode cX9_goOn 65 = .ok (.invokevirtual 171, 3) := by decide +kernel
theorem dX9_goOn_68 : decode cX9_goOn 68 = .ok (.aload_n 0, 1) := by decide +kernel
theorem dX9_goOn_69 : decode cX9_goOn 69 = .ok (.getfield 40, 3) := by decide +kernel
theorem dX9_goOn_72 : decode cX9_goOn 72 = .ok (.getfield 174, 3) := by decide +kernel
theorem dX9_goOn_75 : decode cX9_goOn 75 = .ok (.iload_n 1, 1) := by decide +kernel
theorem dX9_goOn_76 : decode cX9_goOn 76 = .ok (.invokevirtual 104, 3) := by decide +kernel
theorem dX9_goOn_79 : decode cX9_goOn 79 = .ok (.ireturn, 1) := by decide +kernel
set_option maxRecDepth 20000 in
theorem ggX9_lines_X9_gatherTotals : GoodIn wsX9_lines wsX9_gatherTotals := goodIn_r _ [13, 14, 15, 16, 17, 18, 19, 12, 20, 21, 22, 23, 24, 25, 26, 27, 28, 29, 30, 31, 32, 33, 34, 35, 36, 37, 38, 39, 40, 41, 42, 43, 44, 45, 46, 47, 48, 49, 50, 51, 52, 53, 54, 55, 56, 57, 58, 59, 60, 61, 62, 63, 64, 65, 66, 67, 68, 69, 70, 71, 72, 73, 74, 75, 76, 77, 78, 79, 80, 81, 82, 83, 84, 85, 86, 87, 88, 89, 90, 91, 92, 93, 94, 95, 96, 97, 98, 99, 104, 105, 106, 107, 108, 109, 110, 111, 112, 113, 114, 115, 116, 117, 118, 119, 120, 121, 122, 123, 124, 125, 126, 127, 128, 129, 130, 131, 132, 133, 134, 135, 136, 137, 138, 139, 140, 141, 142, 143, 144, 145, 146, 147, 148, 149, 150, 151, 152, 153, 154, 155, 156, 157, 158] (by decide +kernel) (by decide +kernel)
set_option maxRecDepth 20000 in
theorem gX9_lines_X9_gatherTotals : GoodIn wsX9_lines (wsV RX9 190 RX9 yX9_gatherTotals wsX9_gatherTotals) := goodIn_app (goodIn_of _ (by decide +kernel)) ggX9_lines_X9_gatherTotals
set_option maxRecDepth 20000 in
theorem ggX9_lines_X9_pupilsFrom : GoodIn wsX9_lines wsX9_pupilsFrom := goodIn_r _ [103, 16, 73, 40, 41, 42, 43, 44, 104, 105, 106, 107, 108, 109, 110, 111, 112, 113, 114, 115, 116, 117, 118, 126] (by decide +kernel) (by decide +kernel)
set_option maxRecDepth 20000 in
theorem gX9_lines_X9_pupilsFrom : GoodIn wsX9_lines (wsV RX9 194 RX9 yX9_pupilsFrom wsX9_pupilsFrom) := goodIn_app (goodIn_of _ (by decide +kernel)) ggX9_lines_X9_pupilsFrom
theorem dX9_lines_0 : decode cX9_lines 0 = .ok (.iload_n 1, 1) := by decide +kernel
theorem dX9_lines_1 : decode cX9_lines 1 = .ok (.ifCond .lt 10, 3) := by decide +kernel
theorem dX9_lines_4 : decode cX9_lines 4 = .ok (.iload_n 1, 1) := by decide +kernel
theorem dX9_lines_5 : decode cX9_lines 5 = .ok (.sipush 999, 3) := by decide +kernel
theorem dX9_lines_8 : decode cX9_lines 8 = .ok (.if_icmp .le 11, 3) := by decide +kernel
theorem dX9_lines_11 : decode cX9_lines 11 = .ok (.new 81, 3) := by decide +kernel
theorem dX9_lines_14 : decode cX9_lines 14 = .ok (.dup, 1) := by decide +kernel
theorem dX9_lines_15 : decode cX9_lines 15 = .ok (.invokespecial 83, 3) := by decide +kernel
theorem dX9_lines_18 : decode cX9_lines 18 = .ok (.athrow, 1) := by decide +kernel
theorem dX9_lines_19 : decode cX9_lines 19 = .ok (.iload_n 2, 1) := by decide +kernel
theorem dX9_lines_20 : decode cX9_lines 20 = .ok (.ifCond .lt 17, 3) := by decide +kernel
theorem dX9_lines_23 : decode cX9_lines 23 = .ok (.iload_n 2, 1) := by decide +kernel
theorem dX9_lines_24 : decode cX9_lines 24 = .ok (.iload_n 1, 1) := by decide +kernel
theorem dX9_lines_25 : decode cX9_lines 25 = .ok (.if_icmp .gt 12, 3) := by decide +kernel
theorem dX9_lines_28 : decode cX9_lines 28 = .ok (.iload_n 3, 1) := by decide +kernel
theorem dX9_lines_29 : decode cX9_lines 29 = .ok (.ifCond .lt 8, 3) := by decide +kernel
theorem dX9_lines_32 : decode cX9_lines 32 = .ok (.iload_n 3, 1) := by decide +kernel
theorem dX9_lines_33 : decode cX9_lines 33 = .ok (.iload_n 2, 1) := by decide +kernel
theorem dX9_lines_34 : decode cX9_lines 34 = .ok (.if_icmp .le 11, 3) := by decide +kernel
theorem dX9_lines_37 : decode cX9_lines 37 = .ok (.new 81, 3) := by decide +kernel
theorem dX9_lines_40 : decode cX9_lines 40 = .ok (.dup, 1) := by decide +kernel
theorem dX9_lines_41 : decode cX9_lines 41 = .ok (.invokespecial 83, 3) := by decide +kernel
theorem dX9_lines_44 : decode cX9_lines 44 = .ok (.athrow, 1) := by decide +kernel
theorem dX9_lines_45 : decode cX9_lines 45 = .ok (.aload_n 0, 1) := by decide +kernel
theorem dX9_lines_46 : decode cX9_lines 46 = .ok (.getfield 177, 3) := by decide +kernel
theorem dX9_lines_49 : decode cX9_lines 49 = .ok (.ifCond .eq 11, 3) := by decide +kernel
theorem dX9_lines_52 : decode cX9_lines 52 = .ok (.new 87, 3) := by decide +kernel
theorem dX9_lines_55 : decode cX9_lines 55 = .ok (.dup, 1) := by decide +kernel
theorem dX9_lines_56 : decode cX9_lines 56 = .ok (.invokespecial 89, 3) := by decide +kernel
theorem dX9_lines_59 : decode cX9_lines 59 = .ok (.athrow, 1) := by decide +kernel
theorem dX9_lines_60 : decode cX9_lines 60 = .ok (.aload_n 0, 1) := by decide +kernel
theorem dX9_lines_61 : decode cX9_lines 61 = .ok (.iload_n 1, 1) := by decide +kernel
theorem dX9_lines_62 : decode cX9_lines 62 = .ok (.putfield 181, 3) := by decide +kernel
theorem dX9_lines_65 : decode cX9_lines 65 = .ok (.aload_n 0, 1) := by decide +kernel
theorem dX9_lines_66 : decode cX9_lines 66 = .ok (.iload_n 2, 1) := by decide +kernel
theorem dX9_lines_67 : decode cX9_lines 67 = .ok (.putfield 184, 3) := by decide +kernel
theorem dX9_lines_70 : decode cX9_lines 70 = .ok (.aload_n 0, 1) := by decide +kernel
theorem dX9_lines_71 : decode cX9_lines 71 = .ok (.iload_n 3, 1) := by decide +kernel
theorem dX9_lines_72 : decode cX9_lines 72 = .ok (.putfield 187, 3) := by decide +kernel
theorem dX9_lines_75 : decode cX9_lines 75 = .ok (.aload_n 0, 1) := by decide +kernel
theorem dX9_lines_76 : decode cX9_lines 76 = .ok (.iload_n 1, 1) := by decide +kernel
theorem dX9_lines_77 : decode cX9_lines 77 = .ok (.aload_n 0, 1) := by decide +kernel
theorem dX9_lines_78 : decode cX9_lines 78 = .ok (.invokevirtual 190, 3) := by decide +kernel
theorem dX9_lines_81 : decode cX9_lines 81 = .ok (.invokevirtual 194, 3) := by decide +kernel
theorem dX9_lines_84 : decode cX9_lines 84 = .ok (.ireturn, 1) := by decide +kernel
set_option maxRecDepth 20000 in
theorem ggX9_release_X9_gatherTotals : GoodIn wsX9_release wsX9_gatherTotals := goodIn_r _ [11, 4, 5, 12, 13, 14, 15, 10, 16, 17, 18, 19, 20, 21, 22, 23, 24, 25, 26, 27, 28, 29, 30, 31, 32, 33, 34, 35, 36, 37, 38, 39, 40, 41, 42, 43, 44, 45, 46, 47, 48, 49, 50, 51, 52, 53, 54, 55, 56, 57, 58, 59, 60, 61, 62, 63, 64, 65, 66, 67, 68, 69, 70, 71, 72, 73, 74, 75, 76, 77, 78, 79, 80, 81, 82, 83, 84, 85, 86, 87, 88, 89, 90, 91, 92, 93, 94, 95, 103, 104, 105, 106, 107, 108, 109, 110, 111, 112, 113, 114, 115, 116, 117, 118, 119, 120, 121, 122, 123, 124, 125, 126, 127, 128, 129, 130, 131, 132, 133, 134, 135, 136, 137, 138, 139, 140, 141, 142, 143, 144, 145, 146, 147, 148, 149, 150, 151, 152, 153, 154, 155, 156, 157] (by decide +kernel) (by decide +kernel)
set_option maxRecDepth 20000 in
theorem gX9_release_X9_gatherTotals : GoodIn wsX9_release (wsV RX9 190 RX9 yX9_gatherTotals wsX9_gatherTotals) := goodIn_app (goodIn_of _ (by decide +kernel)) ggX9_release_X9_gatherTotals
set_option maxRecDepth 20000 in
theorem ggX9_release_X9_gradeNow : GoodIn wsX9_release wsX9_gradeNow := goodIn_r _ [99, 100, 101, 102, 13, 14, 15, 10, 16, 17, 18, 19, 20, 4, 21, 22, 23, 24, 25, 26, 27, 28, 29, 30, 31, 32, 33, 34, 35, 36, 37, 38, 39, 40, 41, 42, 43, 44, 45, 46, 47, 48, 49, 50, 51, 52, 53, 54, 55, 56, 57, 58, 59, 60, 61, 62, 63, 64, 65, 66, 67, 68, 69, 70, 71, 72, 73, 74, 75, 76, 77, 78, 79, 80, 81, 82, 83, 84, 85, 86, 87, 88, 89, 90, 91, 103, 104, 105, 106, 107, 108, 109, 110, 111, 112, 113, 114, 115, 116, 117, 118, 119, 120, 121, 122, 123, 124, 125, 126, 127, 128, 129, 130, 131, 132, 133, 134, 135, 136, 137, 138, 139, 140, 141, 142, 143, 144, 145, 146, 147, 148, 149, 150, 151, 152, 153, 154, 155, 156, 157] (by decide +kernel) (by decide +kernel)
set_option maxRecDepth 20000 in
theorem gX9_release_X9_gradeNow : GoodIn wsX9_release (wsV RX9 197 RX9 yX9_gradeNow wsX9_gradeNow) := goodIn_app (goodIn_of _ (by decide +kernel)) ggX9_release_X9_gradeNow
set_option maxRecDepth 20000 in
theorem ggX9_release_X5_set : GoodIn wsX9_release wsX5_set := goodIn_r _ [95, 40, 125] (by decide +kernel) (by decide +kernel)
set_option maxRecDepth 20000 in
theorem gX9_release_X5_set : GoodIn wsX9_release (wsV RX9 108 RX5 yX5_set wsX5_set) := goodIn_app (goodIn_of _ (by decide +kernel)) ggX9_release_X5_set
theorem dX9_release_0 : decode cX9_release 0 = .ok (.aload_n 0, 1) := by decide +kernel
theorem dX9_release_1 : decode cX9_release 1 = .ok (.getfield 177, 3) := by decide +kernel
theorem dX9_release_4 : decode cX9_release 4 = .ok (.ifCond .ne 27, 3) := by decide +kernel
theorem dX9_release_7 : decode cX9_release 7 = .ok (.aload_n 0, 1) := by decide +kernel
theorem dX9_release_8 : decode cX9_release 8 = .ok (.getfield 33, 3) := by decide +kernel
theorem dX9_release_11 : decode cX9_release 11 = .ok (.getfield 84, 3) := by decide +kernel
theorem dX9_release_14 : decode cX9_release 14 = .ok (.ifCond .eq 17, 3) := by decide +kernel
theorem dX9_release_17 : decode cX9_release 17 = .ok (.aload_n 0, 1) := by decide +kernel
theorem dX9_release_18 : decode cX9_release 18 = .ok (.invokevirtual 190, 3) := by decide +kernel
theorem dX9_release_21 : decode cX9_release 21 = .ok (.aload_n 0, 1) := by decide +kernel
theorem dX9_release_22 : decode cX9_release 22 = .ok (.getfield 33, 3) := by decide +kernel
theorem dX9_release_25 : decode cX9_release 25 = .ok (.getfield 84, 3) := by decide +kernel
theorem dX9_release_28 : decode cX9_release 28 = .ok (.if_icmp .ge 11, 3) := by decide +kernel
theorem dX9_release_31 : decode cX9_release 31 = .ok (.new 87, 3) := by decide +kernel
theorem dX9_release_34 : decode cX9_release 34 = .ok (.dup, 1) := by decide +kernel
theorem dX9_release_35 : decode cX9_release 35 = .ok (.invokespecial 89, 3) := by decide +kernel
theorem dX9_release_38 : decode cX9_release 38 = .ok (.athrow, 1) := by decide +kernel
theorem dX9_release_39 : decode cX9_release 39 = .ok (.aload_n 0, 1) := by decide +kernel
theorem dX9_release_40 : decode cX9_release 40 = .ok (.iconst 1, 1) := by decide +kernel
theorem dX9_release_41 : decode cX9_release 41 = .ok (.putfield 177, 3) := by decide +kernel
theorem dX9_release_44 : decode cX9_release 44 = .ok (.iconst 0, 1) := by decide +kernel
theorem dX9_release_45 : decode cX9_release 45 = .ok (.istore_n 1, 1) := by decide +kernel
theorem dX9_release_46 : decode cX9_release 46 = .ok (.iconst 0, 1) := by decide +kernel
theorem dX9_release_47 : decode cX9_release 47 = .ok (.istore_n 2, 1) := by decide +kernel
theorem dX9_release_48 : decode cX9_release 48 = .ok (.iload_n 2, 1) := by decide +kernel
theorem dX9_release_49 : decode cX9_release 49 = .ok (.aload_n 0, 1) := by decide +kernel
theorem dX9_release_50 : decode cX9_release 50 = .ok (.getfield 33, 3) := by decide +kernel
theorem dX9_release_53 : decode cX9_release 53 = .ok (.getfield 84, 3) := by decide +kernel
theorem dX9_release_56 : decode cX9_release 56 = .ok (.if_icmp .ge 34, 3) := by decide +kernel
theorem dX9_release_59 : decode cX9_release 59 = .ok (.aload_n 0, 1) := by decide +kernel
theorem dX9_release_60 : decode cX9_release 60 = .ok (.iload_n 2, 1) := by decide +kernel
theorem dX9_release_61 : decode cX9_release 61 = .ok (.invokevirtual 197, 3) := by decide +kernel
theorem dX9_release_64 : decode cX9_release 64 = .ok (.istore_n 3, 1) := by decide +kernel
theorem dX9_release_65 : decode cX9_release 65 = .ok (.aload_n 0, 1) := by decide +kernel
theorem dX9_release_66 : decode cX9_release 66 = .ok (.getfield 33, 3) := by decide +kernel
theorem dX9_release_69 : decode cX9_release 69 = .ok (.getfield 200, 3) := by decide +kernel
theorem dX9_release_72 : decode cX9_release 72 = .ok (.iload_n 2, 1) := by decide +kernel
theorem dX9_release_73 : decode cX9_release 73 = .ok (.iload_n 3, 1) := by decide +kernel
theorem dX9_release_74 : decode cX9_release 74 = .ok (.invokevirtual 108, 3) := by decide +kernel
theorem dX9_release_77 : decode cX9_release 77 = .ok (.iload_n 3, 1) := by decide +kernel
theorem dX9_release_78 : decode cX9_release 78 = .ok (.ifCond .le 6, 3) := by decide +kernel
theorem dX9_release_81 : decode cX9_release 81 = .ok (.iinc 1 1, 3) := by decide +kernel
theorem dX9_release_84 : decode cX9_release 84 = .ok (.iinc 2 1, 3) := by decide +kernel
theorem dX9_release_87 : decode cX9_release 87 = .ok (.goto (-39), 3) := by decide +kernel
theorem dX9_release_90 : decode cX9_release 90 = .ok (.iload_n 1, 1) := by decide +kernel
theorem dX9_release_91 : decode cX9_release 91 = .ok (.ireturn, 1) := by decide +kernel
set_option maxRecDepth 20000 in
theorem ggX9_appeal_X3_has : GoodIn wsX9_appeal wsX3_has := goodIn_r _ [11, 12, 114, 115, 116, 117, 118, 119, 120] (by decide +kernel) (by decide +kernel)
set_option maxRecDepth 20000 in
theorem gX9_appeal_X3_has : GoodIn wsX9_appeal (wsV RX9 94 RX3 yX3_has wsX3_has) := goodIn_app (goodIn_of _ (by decide +kernel)) ggX9_appeal_X3_has
set_option maxRecDepth 20000 in
theorem ggX9_appeal_X9_isQuestion : GoodIn wsX9_appeal wsX9_isQuestion := goodIn_r _ [16] (by decide +kernel) (by decide +kernel)
set_option maxRecDepth 20000 in
theorem gX9_appeal_X9_isQuestion : GoodIn wsX9_appeal (va_wsS RX9 116 yX9_isQuestion wsX9_isQuestion) := goodIn_app (goodIn_of _ (by decide +kernel)) ggX9_appeal_X9_isQuestion
set_option maxRecDepth 20000 in
theorem ggX9_appeal_X3_isLacking : GoodIn wsX9_appeal wsX3_isLacking := goodIn_r _ [20, 21, 22, 23, 24, 25, 26, 27, 114, 115, 116, 117, 118, 119, 120, 121] (by decide +kernel) (by decide +kernel)
set_option maxRecDepth 20000 in
theorem gX9_appeal_X3_isLacking : GoodIn wsX9_appeal (wsV RX9 203 RX3 yX3_isLacking wsX3_isLacking) := goodIn_app (goodIn_of _ (by decide +kernel)) ggX9_appeal_X3_isLacking
set_option maxRecDepth 20000 in
theorem ggX9_appeal_X9_markNow : GoodIn wsX9_appeal wsX9_markNow := goodIn_r _ [31, 5, 32, 33, 34, 17, 18, 19, 10, 20, 21, 22, 23, 24, 25, 26, 27, 35, 36, 37, 15, 38, 39, 40, 41, 42, 43, 44, 45, 46, 47, 48, 49, 50, 51, 52, 53, 54, 55, 56, 57, 58, 59, 60, 61, 62, 63, 64, 65, 66, 67, 68, 69, 70, 71, 72, 73, 74, 75, 76, 77, 78, 79, 80, 81, 82, 83, 84, 85, 99, 100, 101, 102, 103, 104, 105, 106, 107, 108, 109, 110, 111, 112, 113, 114, 115, 116, 117, 118, 119, 120, 121, 122, 123, 124, 125, 126, 127, 128, 129, 130, 131, 132, 133, 134, 135, 136, 137, 138, 139, 140, 141, 142, 143, 144, 145, 146, 147, 148, 149, 150, 151, 152, 153] (by decide +kernel) (by decide +kernel)
set_option maxRecDepth 20000 in
theorem gX9_appeal_X9_markNow : GoodIn wsX9_appeal (wsV RX9 207 RX9 yX9_markNow wsX9_markNow) := goodIn_app (goodIn_of _ (by decide +kernel)) ggX9_appeal_X9_markNow
set_option maxRecDepth 20000 in
theorem ggX9_appeal_X3_isAppealed : GoodIn wsX9_appeal wsX3_isAppealed := goodIn_r _ [89, 90, 22, 23, 24, 25, 26, 27, 114, 115, 116, 117, 118, 119, 120, 121] (by decide +kernel) (by decide +kernel)
set_option maxRecDepth 20000 in
theorem gX9_appeal_X3_isAppealed : GoodIn wsX9_appeal (wsV RX9 210 RX3 yX3_isAppealed wsX3_isAppealed) := goodIn_app (goodIn_of _ (by decide +kernel)) ggX9_appeal_X3_isAppealed
set_option maxRecDepth 20000 in
theorem ggX9_appeal_X3_noteAppeal : GoodIn wsX9_appeal wsX3_noteAppeal := goodIn_r _ [94, 90, 22, 23, 24, 25, 26, 27, 95, 96, 97, 98, 114, 115, 116, 117, 118, 119, 120, 121] (by decide +kernel) (by decide +kernel)
set_option maxRecDepth 20000 in
theorem gX9_appeal_X3_noteAppeal : GoodIn wsX9_appeal (wsV RX9 213 RX3 yX3_noteAppeal wsX3_noteAppeal) := goodIn_app (goodIn_of _ (by decide +kernel)) ggX9_appeal_X3_noteAppeal
theorem dX9_appeal_0 : decode cX9_appeal 0 = .ok (.aload_n 0, 1) := by decide +kernel
theorem dX9_appeal_1 : decode cX9_appeal 1 = .ok (.getfield 33, 3) := by decide +kernel
theorem dX9_appeal_4 : decode cX9_appeal 4 = .ok (.iload_n 1, 1) := by decide +kernel
theorem dX9_appeal_5 : decode cX9_appeal 5 = .ok (.invokevirtual 94, 3) := by decide +kernel
theorem dX9_appeal_8 : decode cX9_appeal 8 = .ok (.ifCond .eq 10, 3) := by decide +kernel
theorem dX9_appeal_11 : decode cX9_appeal 11 = .ok (.iload_n 2, 1) := by decide +kernel
theorem dX9_appeal_12 : decode cX9_appeal 12 = .ok (.invokestatic 116, 3) := by decide +kernel
theorem dX9_appeal_15 : decode cX9_appeal 15 = .ok (.ifCond .ne 11, 3) := by decide +kernel
theorem dX9_appeal_18 : decode cX9_appeal 18 = .ok (.new 98, 3) := by decide +kernel
theorem dX9_appeal_21 : decode cX9_appeal 21 = .ok (.dup, 1) := by decide +kernel
theorem dX9_appeal_22 : decode cX9_appeal 22 = .ok (.invokespecial 100, 3) := by decide +kernel
theorem dX9_appeal_25 : decode cX9_appeal 25 = .ok (.athrow, 1) := by decide +kernel
theorem dX9_appeal_26 : decode cX9_appeal 26 = .ok (.aload_n 0, 1) := by decide +kernel
theorem dX9_appeal_27 : decode cX9_appeal 27 = .ok (.getfield 177, 3) := by decide +kernel
theorem dX9_appeal_30 : decode cX9_appeal 30 = .ok (.ifCond .eq 15, 3) := by decide +kernel
theorem dX9_appeal_33 : decode cX9_appeal 33 = .ok (.aload_n 0, 1) := by decide +kernel
theorem dX9_appeal_34 : decode cX9_appeal 34 = .ok (.getfield 33, 3) := by decide +kernel
theorem dX9_appeal_37 : decode cX9_appeal 37 = .ok (.iload_n 1, 1) := by decide +kernel
theorem dX9_appeal_38 : decode cX9_appeal 38 = .ok (.iload_n 2, 1) := by decide +kernel
theorem dX9_appeal_39 : decode cX9_appeal 39 = .ok (.invokevirtual 203, 3) := by decide +kernel
theorem dX9_appeal_42 : decode cX9_appeal 42 = .ok (.ifCond .eq 11, 3) := by decide +kernel
theorem dX9_appeal_45 : decode cX9_appeal 45 = .ok (.new 87, 3) := by decide +kernel
theorem dX9_appeal_48 : decode cX9_appeal 48 = .ok (.dup, 1) := by decide +kernel
theorem dX9_appeal_49 : decode cX9_appeal 49 = .ok (.invokespecial 89, 3) := by decide +kernel
theorem dX9_appeal_52 : decode cX9_appeal 52 = .ok (.athrow, 1) := by decide +kernel
theorem dX9_appeal_53 : decode cX9_appeal 53 = .ok (.aload_n 0, 1) := by decide +kernel
theorem dX9_appeal_54 : decode cX9_appeal 54 = .ok (.iload_n 1, 1) := by decide +kernel
theorem dX9_appeal_55 : decode cX9_appeal 55 = .ok (.iload_n 2, 1) := by decide +kernel
theorem dX9_appeal_56 : decode cX9_appeal 56 = .ok (.invokevirtual 207, 3) := by decide +kernel
theorem dX9_appeal_59 : decode cX9_appeal 59 = .ok (.istore_n 3, 1) := by decide +kernel
theorem dX9_appeal_60 : decode cX9_appeal 60 = .ok (.aload_n 0, 1) := by decide +kernel
theorem dX9_appeal_61 : decode cX9_appeal 61 = .ok (.getfield 33, 3) := by decide +kernel
theorem dX9_appeal_64 : decode cX9_appeal 64 = .ok (.iload_n 1, 1) := by decide +kernel
theorem dX9_appeal_65 : decode cX9_appeal 65 = .ok (.iload_n 2, 1) := by decide +kernel
theorem dX9_appeal_66 : decode cX9_appeal 66 = .ok (.invokevirtual 210, 3) := by decide +kernel
theorem dX9_appeal_69 : decode cX9_appeal 69 = .ok (.ifCond .ne 8, 3) := by decide +kernel
theorem dX9_appeal_72 : decode cX9_appeal 72 = .ok (.iload_n 3, 1) := by decide +kernel
theorem dX9_appeal_73 : decode cX9_appeal 73 = .ok (.iconst (-1), 1) := by decide +kernel
theorem dX9_appeal_74 : decode cX9_appeal 74 = .ok (.if_icmp .ne 11, 3) := by decide +kernel
theorem dX9_appeal_77 : decode cX9_appeal 77 = .ok (.new 87, 3) := by decide +kernel
theorem dX9_appeal_80 : decode cX9_appeal 80 = .ok (.dup, 1) := by decide +kernel
theorem dX9_appeal_81 : decode cX9_appeal 81 = .ok (.invokespecial 89, 3) := by decide +kernel
theorem dX9_appeal_84 : decode cX9_appeal 84 = .ok (.athrow, 1) := by decide +kernel
theorem dX9_appeal_85 : decode cX9_appeal 85 = .ok (.aload_n 0, 1) := by decide +kernel
theorem dX9_appeal_86 : decode cX9_appeal 86 = .ok (.getfield 33, 3) := by decide +kernel
theorem dX9_appeal_89 : decode cX9_appeal 89 = .ok (.iload_n 1, 1) := by decide +kernel
theorem dX9_appeal_90 : decode cX9_appeal 90 = .ok (.iload_n 2, 1) := by decide +kernel
theorem dX9_appeal_91 : decode cX9_appeal 91 = .ok (.invokevirtual 213, 3) := by decide +kernel
theorem dX9_appeal_94 : decode cX9_appeal 94 = .ok (.iload_n 3, 1) := by decide +kernel
theorem dX9_appeal_95 : decode cX9_appeal 95 = .ok (.ireturn, 1) := by decide +kernel
set_option maxRecDepth 20000 in
theorem ggX9_versions_X9_isQuestion : GoodIn wsX9_versions wsX9_isQuestion := goodIn_r _ [8] (by decide +kernel) (by decide +kernel)
set_option maxRecDepth 20000 in
theorem gX9_versions_X9_isQuestion : GoodIn wsX9_versions (va_wsS RX9 116 yX9_isQuestion wsX9_isQuestion) := goodIn_app (goodIn_of _ (by decide +kernel)) ggX9_versions_X9_isQuestion
set_option maxRecDepth 20000 in
theorem ggX9_versions_X5_get : GoodIn wsX9_versions wsX5_get := goodIn_r _ [13, 14, 38] (by decide +kernel) (by decide +kernel)
set_option maxRecDepth 20000 in
theorem gX9_versions_X5_get : GoodIn wsX9_versions (wsV RX9 104 RX5 yX5_get wsX5_get) := goodIn_app (goodIn_of _ (by decide +kernel)) ggX9_versions_X5_get
theorem dX9_versions_0 : decode cX9_versions 0 = .ok (.iload_n 1, 1) := by decide +kernel
theorem dX9_versions_1 : decode cX9_versions 1 = .ok (.invokestatic 116, 3) := by decide +kernel
theorem dX9_versions_4 : decode cX9_versions 4 = .ok (.ifCond .ne 11, 3) := by decide +kernel
theorem dX9_versions_7 : decode cX9_versions 7 = .ok (.new 98, 3) := by decide +kernel
theorem dX9_versions_10 : decode cX9_versions 10 = .ok (.dup, 1) := by decide +kernel
theorem dX9_versions_11 : decode cX9_versions 11 = .ok (.invokespecial 100, 3) := by decide +kernel
theorem dX9_versions_14 : decode cX9_versions 14 = .ok (.athrow, 1) := by decide +kernel
theorem dX9_versions_15 : decode cX9_versions 15 = .ok (.aload_n 0, 1) := by decide +kernel
theorem dX9_versions_16 : decode cX9_versions 16 = .ok (.getfield 26, 3) := by decide +kernel
theorem dX9_versions_19 : decode cX9_versions 19 = .ok (.getfield 119, 3) := by decide +kernel
theorem dX9_versions_22 : decode cX9_versions 22 = .ok (.iload_n 1, 1) := by decide +kernel
theorem dX9_versions_23 : decode cX9_versions 23 = .ok (.invokevirtual 104, 3) := by decide +kernel
theorem dX9_versions_26 : decode cX9_versions 26 = .ok (.ireturn, 1) := by decide +kernel
set_option maxRecDepth 20000 in
theorem ggX9_markOf_X9_isQuestion : GoodIn wsX9_markOf wsX9_isQuestion := goodIn_r _ [9] (by decide +kernel) (by decide +kernel)
set_option maxRecDepth 20000 in
theorem gX9_markOf_X9_isQuestion : GoodIn wsX9_markOf (va_wsS RX9 116 yX9_isQuestion wsX9_isQuestion) := goodIn_app (goodIn_of _ (by decide +kernel)) ggX9_markOf_X9_isQuestion
set_option maxRecDepth 20000 in
theorem ggX9_markOf_X6_has : GoodIn wsX9_markOf wsX6_has := goodIn_r _ [14, 15, 16, 17, 18, 19, 20, 21, 73, 74, 75, 76, 77, 78, 79, 80, 81] (by decide +kernel) (by decide +kernel)
set_option maxRecDepth 20000 in
theorem gX9_markOf_X6_has : GoodIn wsX9_markOf (wsV RX9 216 RX6 yX6_has wsX6_has) := goodIn_app (goodIn_of _ (by decide +kernel)) ggX9_markOf_X6_has
set_option maxRecDepth 20000 in
theorem ggX9_markOf_X9_arePoints : GoodIn wsX9_markOf wsX9_arePoints := goodIn_r _ [24] (by decide +kernel) (by decide +kernel)
set_option maxRecDepth 20000 in
theorem gX9_markOf_X9_arePoints : GoodIn wsX9_markOf (va_wsS RX9 144 yX9_arePoints wsX9_arePoints) := goodIn_app (goodIn_of _ (by decide +kernel)) ggX9_markOf_X9_arePoints
set_option maxRecDepth 20000 in
theorem ggX9_markOf_X6_markBy : GoodIn wsX9_markOf wsX6_markBy := goodIn_r _ [28, 29, 30, 31, 32, 33, 34, 35, 36, 37, 38, 16, 17, 18, 19, 20, 21, 39, 40, 41, 13, 42, 43, 44, 45, 46, 47, 48, 49, 50, 51, 52, 53, 54, 55, 56, 57, 73, 74, 75, 76, 77, 78, 79, 80, 81] (by decide +kernel) (by decide +kernel)
set_option maxRecDepth 20000 in
theorem gX9_markOf_X6_markBy : GoodIn wsX9_markOf (wsV RX9 218 RX6 yX6_markBy wsX6_markBy) := goodIn_app (goodIn_of _ (by decide +kernel)) ggX9_markOf_X6_markBy
theorem dX9_markOf_0 : decode cX9_markOf 0 = .ok (.iload_n 1, 1) := by decide +kernel
theorem dX9_markOf_1 : decode cX9_markOf 1 = .ok (.invokestatic 116, 3) := by decide +kernel
theorem dX9_markOf_4 : decode cX9_markOf 4 = .ok (.ifCond .eq 15, 3) := by decide +kernel
theorem dX9_markOf_7 : decode cX9_markOf 7 = .ok (.aload_n 0, 1) := by decide +kernel
theorem dX9_markOf_8 : decode cX9_markOf 8 = .ok (.getfield 26, 3) := by decide +kernel
theorem dX9_markOf_11 : decode cX9_markOf 11 = .ok (.iload_n 1, 1) := by decide +kernel
theorem dX9_markOf_12 : decode cX9_markOf 12 = .ok (.iload_n 2, 1) := by decide +kernel
theorem dX9_markOf_13 : decode cX9_markOf 13 = .ok (.invokevirtual 216, 3) := by decide +kernel
theorem dX9_markOf_16 : decode cX9_markOf 16 = .ok (.ifCond .ne 11, 3) := by decide +kernel
theorem dX9_markOf_19 : decode cX9_markOf 19 = .ok (.new 98, 3) := by decide +kernel
theorem dX9_markOf_22 : decode cX9_markOf 22 = .ok (.dup, 1) := by decide +kernel
theorem dX9_markOf_23 : decode cX9_markOf 23 = .ok (.invokespecial 100, 3) := by decide +kernel
theorem dX9_markOf_26 : decode cX9_markOf 26 = .ok (.athrow, 1) := by decide +kernel
theorem dX9_markOf_27 : decode cX9_markOf 27 = .ok (.iload_n 3, 1) := by decide +kernel
theorem dX9_markOf_28 : decode cX9_markOf 28 = .ok (.invokestatic 144, 3) := by decide +kernel
theorem dX9_markOf_31 : decode cX9_markOf 31 = .ok (.ifCond .ne 11, 3) := by decide +kernel
theorem dX9_markOf_34 : decode cX9_markOf 34 = .ok (.new 81, 3) := by decide +kernel
theorem dX9_markOf_37 : decode cX9_markOf 37 = .ok (.dup, 1) := by decide +kernel
theorem dX9_markOf_38 : decode cX9_markOf 38 = .ok (.invokespecial 83, 3) := by decide +kernel
theorem dX9_markOf_41 : decode cX9_markOf 41 = .ok (.athrow, 1) := by decide +kernel
theorem dX9_markOf_42 : decode cX9_markOf 42 = .ok (.aload_n 0, 1) := by decide +kernel
theorem dX9_markOf_43 : decode cX9_markOf 43 = .ok (.getfield 26, 3) := by decide +kernel
theorem dX9_markOf_46 : decode cX9_markOf 46 = .ok (.iload_n 1, 1) := by decide +kernel
theorem dX9_markOf_47 : decode cX9_markOf 47 = .ok (.iload_n 2, 1) := by decide +kernel
theorem dX9_markOf_48 : decode cX9_markOf 48 = .ok (.iload_n 3, 1) := by decide +kernel
theorem dX9_markOf_49 : decode cX9_markOf 49 = .ok (.invokevirtual 218, 3) := by decide +kernel
theorem dX9_markOf_52 : decode cX9_markOf 52 = .ok (.ireturn, 1) := by decide +kernel
set_option maxRecDepth 20000 in
theorem ggX9_written_X9_isQuestion : GoodIn wsX9_written wsX9_isQuestion := goodIn_r _ [7] (by decide +kernel) (by decide +kernel)
set_option maxRecDepth 20000 in
theorem gX9_written_X9_isQuestion : GoodIn wsX9_written (va_wsS RX9 116 yX9_isQuestion wsX9_isQuestion) := goodIn_app (goodIn_of _ (by decide +kernel)) ggX9_written_X9_isQuestion
set_option maxRecDepth 20000 in
theorem ggX9_written_X6_has : GoodIn wsX9_written wsX6_has := goodIn_r _ [12, 13, 14, 15, 16, 17, 18, 19, 41, 42, 43, 44, 45, 46, 47, 48, 49] (by decide +kernel) (by decide +kernel)
set_option maxRecDepth 20000 in
theorem gX9_written_X6_has : GoodIn wsX9_written (wsV RX9 216 RX6 yX6_has wsX6_has) := goodIn_app (goodIn_of _ (by decide +kernel)) ggX9_written_X6_has
set_option maxRecDepth 20000 in
theorem ggX9_written_X6_signAt : GoodIn wsX9_written wsX6_signAt := goodIn_r _ [23, 24, 25, 14, 15, 16, 17, 18, 19, 41, 42, 43, 44, 45, 46, 47, 48, 49] (by decide +kernel) (by decide +kernel)
set_option maxRecDepth 20000 in
theorem gX9_written_X6_signAt : GoodIn wsX9_written (wsV RX9 222 RX6 yX6_signAt wsX6_signAt) := goodIn_app (goodIn_of _ (by decide +kernel)) ggX9_written_X6_signAt
theorem dX9_written_0 : decode cX9_written 0 = .ok (.iload_n 1, 1) := by decide +kernel
theorem dX9_written_1 : decode cX9_written 1 = .ok (.invokestatic 116, 3) := by decide +kernel
theorem dX9_written_4 : decode cX9_written 4 = .ok (.ifCond .eq 19, 3) := by decide +kernel
theorem dX9_written_7 : decode cX9_written 7 = .ok (.aload_n 0, 1) := by decide +kernel
theorem dX9_written_8 : decode cX9_written 8 = .ok (.getfield 26, 3) := by decide +kernel
theorem dX9_written_11 : decode cX9_written 11 = .ok (.iload_n 1, 1) := by decide +kernel
theorem dX9_written_12 : decode cX9_written 12 = .ok (.iload_n 2, 1) := by decide +kernel
theorem dX9_written_13 : decode cX9_written 13 = .ok (.invokevirtual 216, 3) := by decide +kernel
theorem dX9_written_16 : decode cX9_written 16 = .ok (.ifCond .eq 7, 3) := by decide +kernel
theorem dX9_written_19 : decode cX9_written 19 = .ok (.iload_n 3, 1) := by decide +kernel
theorem dX9_written_20 : decode cX9_written 20 = .ok (.ifCond .ge 11, 3) := by decide +kernel
theorem dX9_written_23 : decode cX9_written 23 = .ok (.new 98, 3) := by decide +kernel
theorem dX9_written_26 : decode cX9_written 26 = .ok (.dup, 1) := by decide +kernel
theorem dX9_written_27 : decode cX9_written 27 = .ok (.invokespecial 100, 3) := by decide +kernel
theorem dX9_written_30 : decode cX9_written 30 = .ok (.athrow, 1) := by decide +kernel
theorem dX9_written_31 : decode cX9_written 31 = .ok (.aload_n 0, 1) := by decide +kernel
theorem dX9_written_32 : decode cX9_written 32 = .ok (.getfield 26, 3) := by decide +kernel
theorem dX9_written_35 : decode cX9_written 35 = .ok (.iload_n 1, 1) := by decide +kernel
theorem dX9_written_36 : decode cX9_written 36 = .ok (.iload_n 2, 1) := by decide +kernel
theorem dX9_written_37 : decode cX9_written 37 = .ok (.iload_n 3, 1) := by decide +kernel
theorem dX9_written_38 : decode cX9_written 38 = .ok (.invokevirtual 222, 3) := by decide +kernel
theorem dX9_written_41 : decode cX9_written 41 = .ok (.i2c, 1) := by decide +kernel
theorem dX9_written_42 : decode cX9_written 42 = .ok (.ireturn, 1) := by decide +kernel
set_option maxRecDepth 20000 in
theorem ggX9_mark_X3_has : GoodIn wsX9_mark wsX3_has := goodIn_r _ [8, 9, 98, 99, 100, 101, 102, 103, 104] (by decide +kernel) (by decide +kernel)
set_option maxRecDepth 20000 in
theorem gX9_mark_X3_has : GoodIn wsX9_mark (wsV RX9 94 RX3 yX3_has wsX3_has) := goodIn_app (goodIn_of _ (by decide +kernel)) ggX9_mark_X3_has
set_option maxRecDepth 20000 in
theorem ggX9_mark_X9_isQuestion : GoodIn wsX9_mark wsX9_isQuestion := goodIn_r _ [13] (by decide +kernel) (by decide +kernel)
set_option maxRecDepth 20000 in
theorem gX9_mark_X9_isQuestion : GoodIn wsX9_mark (va_wsS RX9 116 yX9_isQuestion wsX9_isQuestion) := goodIn_app (goodIn_of _ (by decide +kernel)) ggX9_mark_X9_isQuestion
set_option maxRecDepth 20000 in
theorem ggX9_mark_X9_markNow : GoodIn wsX9_mark wsX9_markNow := goodIn_r _ [17, 3, 18, 19, 20, 21, 22, 23, 7, 24, 25, 26, 27, 28, 29, 30, 31, 32, 33, 34, 12, 35, 36, 37, 38, 39, 40, 41, 42, 43, 44, 45, 46, 47, 48, 49, 50, 51, 52, 53, 54, 55, 56, 57, 58, 59, 60, 61, 62, 63, 64, 65, 66, 67, 68, 69, 70, 71, 72, 73, 74, 75, 76, 77, 78, 79, 80, 81, 82, 83, 84, 85, 86, 87, 88, 89, 90, 91, 92, 93, 94, 95, 96, 97, 98, 99, 100, 101, 102, 103, 104, 105, 106, 107, 108, 109, 110, 111, 112, 113, 114, 115, 116, 117, 118, 119, 120, 121, 122, 123, 124, 125, 126, 127, 128, 129, 130, 131, 132, 133, 134, 135, 136, 137] (by decide +kernel) (by decide +kernel)
set_option maxRecDepth 20000 in
theorem gX9_mark_X9_markNow : GoodIn wsX9_mark (wsV RX9 207 RX9 yX9_markNow wsX9_markNow) := goodIn_app (goodIn_of _ (by decide +kernel)) ggX9_mark_X9_markNow
theorem dX9_mark_0 : decode cX9_mark 0 = .ok (.aload_n 0, 1) := by decide +kernel
theorem dX9_mark_1 : decode cX9_mark 1 = .ok (.getfield 33, 3) := by decide +kernel
theorem dX9_mark_4 : decode cX9_mark 4 = .ok (.iload_n 1, 1) := by decide +kernel
theorem dX9_mark_5 : decode cX9_mark 5 = .ok (.invokevirtual 94, 3) := by decide +kernel
theorem dX9_mark_8 : decode cX9_mark 8 = .ok (.ifCond .eq 10, 3) := by decide +kernel
theorem dX9_mark_11 : decode cX9_mark 11 = .ok (.iload_n 2, 1) := by decide +kernel
theorem dX9_mark_12 : decode cX9_mark 12 = .ok (.invokestatic 116, 3) := by decide +kernel
theorem dX9_mark_15 : decode cX9_mark 15 = .ok (.ifCond .ne 11, 3) := by decide +kernel
theorem dX9_mark_18 : decode cX9_mark 18 = .ok (.new 98, 3) := by decide +kernel
theorem dX9_mark_21 : decode cX9_mark 21 = .ok (.dup, 1) := by decide +kernel
theorem dX9_mark_22 : decode cX9_mark 22 = .ok (.invokespecial 100, 3) := by decide +kernel
theorem dX9_mark_25 : decode cX9_mark 25 = .ok (.athrow, 1) := by decide +kernel
theorem dX9_mark_26 : decode cX9_mark 26 = .ok (.aload_n 0, 1) := by decide +kernel
theorem dX9_mark_27 : decode cX9_mark 27 = .ok (.iload_n 1, 1) := by decide +kernel
theorem dX9_mark_28 : decode cX9_mark 28 = .ok (.iload_n 2, 1) := by decide +kernel
theorem dX9_mark_29 : decode cX9_mark 29 = .ok (.invokevirtual 207, 3) := by decide +kernel
theorem dX9_mark_32 : decode cX9_mark 32 = .ok (.ireturn, 1) := by decide +kernel
set_option maxRecDepth 20000 in
theorem ggX9_markAnew_X3_has : GoodIn wsX9_markAnew wsX3_has := goodIn_r _ [10, 11, 125, 126, 127, 128, 129, 130, 131] (by decide +kernel) (by decide +kernel)
set_option maxRecDepth 20000 in
theorem gX9_markAnew_X3_has : GoodIn wsX9_markAnew (wsV RX9 94 RX3 yX3_has wsX3_has) := goodIn_app (goodIn_of _ (by decide +kernel)) ggX9_markAnew_X3_has
set_option maxRecDepth 20000 in
theorem ggX9_markAnew_X9_isQuestion : GoodIn wsX9_markAnew wsX9_isQuestion := goodIn_r _ [15] (by decide +kernel) (by decide +kernel)
set_option maxRecDepth 20000 in
theorem gX9_markAnew_X9_isQuestion : GoodIn wsX9_markAnew (va_wsS RX9 116 yX9_isQuestion wsX9_isQuestion) := goodIn_app (goodIn_of _ (by decide +kernel)) ggX9_markAnew_X9_isQuestion
set_option maxRecDepth 20000 in
theorem ggX9_markAnew_X3_isLacking : GoodIn wsX9_markAnew wsX3_isLacking := goodIn_r _ [19, 20, 21, 22, 23, 24, 25, 26, 125, 126, 127, 128, 129, 130, 131, 132] (by decide +kernel) (by decide +kernel)
set_option maxRecDepth 20000 in
theorem gX9_markAnew_X3_isLacking : GoodIn wsX9_markAnew (wsV RX9 203 RX3 yX3_isLacking wsX3_isLacking) := goodIn_app (goodIn_of _ (by decide +kernel)) ggX9_markAnew_X3_isLacking
set_option maxRecDepth 20000 in
theorem ggX9_markAnew_X9_answerOf : GoodIn wsX9_markAnew wsX9_answerOf := goodIn_r _ [29] (by decide +kernel) (by decide +kernel)
set_option maxRecDepth 20000 in
theorem gX9_markAnew_X9_answerOf : GoodIn wsX9_markAnew (va_wsS RX9 225 yX9_answerOf wsX9_answerOf) := goodIn_app (goodIn_of _ (by decide +kernel)) ggX9_markAnew_X9_answerOf
set_option maxRecDepth 20000 in
theorem ggX9_markAnew_X5_is : GoodIn wsX9_markAnew wsX5_is := goodIn_r _ [33, 26, 132] (by decide +kernel) (by decide +kernel)
set_option maxRecDepth 20000 in
theorem gX9_markAnew_X5_is : GoodIn wsX9_markAnew (wsV RX9 135 RX5 yX5_is wsX5_is) := goodIn_app (goodIn_of _ (by decide +kernel)) ggX9_markAnew_X5_is
set_option maxRecDepth 20000 in
theorem ggX9_markAnew_X9_doubleFromLog : GoodIn wsX9_markAnew wsX9_doubleFromLog := goodIn_r _ [37, 5, 38, 39, 40, 14, 41, 42, 43, 44, 45, 46, 47, 48, 49, 22, 23, 24, 25, 26, 30, 31, 32, 33, 50, 51, 52, 53, 54, 55, 56, 57, 58, 59, 60, 61, 62, 63, 64, 65, 66, 67, 68, 69, 70, 71, 72, 73, 74, 75, 76, 77, 78, 79, 80, 81, 82, 83, 84, 85, 86, 87, 88, 89, 90, 91, 92, 93, 94, 95, 96, 97, 98, 99, 100, 101, 102, 103, 104, 105, 106, 107, 108, 109, 110, 111, 112, 113, 114, 115, 116, 117, 118, 119, 120, 121, 122, 123, 124, 133, 134, 135, 136, 137, 138, 139, 140, 141, 142, 143, 144, 145, 146, 147, 148, 149, 150, 151, 152, 153, 154, 155, 156, 157, 132, 158, 159, 160, 161, 162, 163, 164, 165] (by decide +kernel) (by decide +kernel)
set_option maxRecDepth 20000 in
theorem gX9_markAnew_X9_doubleFromLog : GoodIn wsX9_markAnew (wsV RX9 228 RX9 yX9_doubleFromLog wsX9_doubleFromLog) := goodIn_app (goodIn_of _ (by decide +kernel)) ggX9_markAnew_X9_doubleFromLog
set_option maxRecDepth 20000 in
theorem ggX9_markAnew_X9_findReading : GoodIn wsX9_markAnew wsX9_findReading := goodIn_r _ [41, 42, 43, 44, 45, 46, 47, 48, 49, 22, 23, 24, 25, 26, 30, 31, 32, 33, 50, 51, 52, 14, 53, 54, 55, 56, 57, 58, 59, 60, 61, 62, 63, 64, 110, 111, 112, 113, 114, 115, 116, 117, 118, 119, 120, 121, 122, 123, 124, 133, 134, 135, 136, 137, 138, 139, 140, 141, 142, 143, 144, 145, 146, 147, 148, 149, 150, 151, 152, 153, 154, 155, 156, 157, 132, 158, 159, 160, 161, 162, 163, 164, 165] (by decide +kernel) (by decide +kernel)
set_option maxRecDepth 20000 in
theorem gX9_markAnew_X9_findReading : GoodIn wsX9_markAnew (wsV RX9 231 RX9 yX9_findReading wsX9_findReading) := goodIn_app (goodIn_of _ (by decide +kernel)) ggX9_markAnew_X9_findReading
set_option maxRecDepth 20000 in
theorem ggX9_markAnew_X9_markFound : GoodIn wsX9_markAnew wsX9_markFound := goodIn_r _ [68, 42, 43, 55, 44, 69, 49, 22, 23, 24, 25, 26, 70, 71, 72, 60, 73, 63, 64, 74, 75, 76, 77, 78, 79, 80, 81, 82, 83, 84, 85, 86, 87, 88, 89, 90, 91, 92, 93, 94, 95, 96, 97, 98, 99, 100, 101, 102, 103, 104, 105, 106, 110, 111, 112, 113, 114, 115, 116, 117, 118, 119, 120, 121, 122, 123, 124, 133, 134, 135, 136, 137, 138, 139, 140, 141, 142, 143, 144, 132, 158, 159, 160, 161, 162, 163, 164, 165] (by decide +kernel) (by decide +kernel)
set_option maxRecDepth 20000 in
theorem gX9_markAnew_X9_markFound : GoodIn wsX9_markAnew (wsV RX9 235 RX9 yX9_markFound wsX9_markFound) := goodIn_app (goodIn_of _ (by decide +kernel)) ggX9_markAnew_X9_markFound
set_option maxRecDepth 20000 in
theorem ggX9_markAnew_X9_areApart : GoodIn wsX9_markAnew wsX9_areApart := goodIn_r _ [109] (by decide +kernel) (by decide +kernel)
set_option maxRecDepth 20000 in
theorem gX9_markAnew_X9_areApart : GoodIn wsX9_markAnew (va_wsS RX9 238 yX9_areApart wsX9_areApart) := goodIn_app (goodIn_of _ (by decide +kernel)) ggX9_markAnew_X9_areApart
theorem dX9_markAnew_0 : decode cX9_markAnew 0 = .ok (.aload_n 0, 1) := by decide +kernel
theorem dX9_markAnew_1 : decode cX9_markAnew 1 = .ok (.getfield 33, 3) := by decide +kernel
theorem dX9_markAnew_4 : decode cX9_markAnew 4 = .ok (.iload_n 1, 1) := by decide +kernel
theorem dX9_markAnew_5 : decode cX9_markAnew 5 = .ok (.invokevirtual 94, 3) := by decide +kernel
theorem dX9_markAnew_8 : decode cX9_markAnew 8 = .ok (.ifCond .eq 10, 3) := by decide +kernel
theorem dX9_markAnew_11 : decode cX9_markAnew 11 = .ok (.iload_n 2, 1) := by decide +kernel
theorem dX9_markAnew_12 : decode cX9_markAnew 12 = .ok (.invokestatic 116, 3) := by decide +kernel
theorem dX9_markAnew_15 : decode cX9_markAnew 15 = .ok (.ifCond .ne 11, 3) := by decide +kernel
theorem dX9_markAnew_18 : decode cX9_markAnew 18 = .ok (.new 98, 3) := by decide +kernel
theorem dX9_markAnew_21 : decode cX9_markAnew 21 = .ok (.dup, 1) := by decide +kernel
theorem dX9_markAnew_22 : decode cX9_markAnew 22 = .ok (.invokespecial 100, 3) := by decide +kernel
theorem dX9_markAnew_25 : decode cX9_markAnew 25 = .ok (.athrow, 1) := by decide +kernel
theorem dX9_markAnew_26 : decode cX9_markAnew 26 = .ok (.aload_n 0, 1) := by decide +kernel
theorem dX9_markAnew_27 : decode cX9_markAnew 27 = .ok (.getfield 33, 3) := by decide +kernel
theorem dX9_markAnew_30 : decode cX9_markAnew 30 = .ok (.iload_n 1, 1) := by decide +kernel
theorem dX9_markAnew_31 : decode cX9_markAnew 31 = .ok (.iload_n 2, 1) := by decide +kernel
theorem dX9_markAnew_32 : decode cX9_markAnew 32 = .ok (.invokevirtual 203, 3) := by decide +kernel
theorem dX9_markAnew_35 : decode cX9_markAnew 35 = .ok (.ifCond .eq 5, 3) := by decide +kernel
theorem dX9_markAnew_38 : decode cX9_markAnew 38 = .ok (.iconst 0, 1) := by decide +kernel
theorem dX9_markAnew_39 : decode cX9_markAnew 39 = .ok (.ireturn, 1) := by decide +kernel
theorem dX9_markAnew_40 : decode cX9_markAnew 40 = .ok (.iload_n 1, 1) := by decide +kernel
theorem dX9_markAnew_41 : decode cX9_markAnew 41 = .ok (.iload_n 2, 1) := by decide +kernel
theorem dX9_markAnew_42 : decode cX9_markAnew 42 = .ok (.invokestatic 225, 3) := by decide +kernel
theorem dX9_markAnew_45 : decode cX9_markAnew 45 = .ok (.istore_n 3, 1) := by decide +kernel
theorem dX9_markAnew_46 : decode cX9_markAnew 46 = .ok (.aload_n 0, 1) := by decide +kernel
theorem dX9_markAnew_47 : decode cX9_markAnew 47 = .ok (.getfield 70, 3) := by decide +kernel
theorem dX9_markAnew_50 : decode cX9_markAnew 50 = .ok (.iload_n 2, 1) := by decide +kernel
theorem dX9_markAnew_51 : decode cX9_markAnew 51 = .ok (.invokevirtual 135, 3) := by decide +kernel
theorem dX9_markAnew_54 : decode cX9_markAnew 54 = .ok (.ifCond .eq 11, 3) := by decide +kernel
theorem dX9_markAnew_57 : decode cX9_markAnew 57 = .ok (.aload_n 0, 1) := by decide +kernel
theorem dX9_markAnew_58 : decode cX9_markAnew 58 = .ok (.iload_n 3, 1) := by decide +kernel
theorem dX9_markAnew_59 : decode cX9_markAnew 59 = .ok (.invokevirtual 228, 3) := by decide +kernel
theorem dX9_markAnew_62 : decode cX9_markAnew 62 = .ok (.goto 15, 3) := by decide +kernel
theorem dX9_markAnew_65 : decode cX9_markAnew 65 = .ok (.aload_n 0, 1) := by decide +kernel
theorem dX9_markAnew_66 : decode cX9_markAnew 66 = .ok (.aload_n 0, 1) := by decide +kernel
theorem dX9_markAnew_67 : decode cX9_markAnew 67 = .ok (.iload_n 3, 1) := by decide +kernel
theorem dX9_markAnew_68 : decode cX9_markAnew 68 = .ok (.iconst 0, 1) := by decide +kernel
theorem dX9_markAnew_69 : decode cX9_markAnew 69 = .ok (.iconst 0, 1) := by decide +kernel
theorem dX9_markAnew_70 : decode cX9_markAnew 70 = .ok (.iconst 0, 1) := by decide +kernel
theorem dX9_markAnew_71 : decode cX9_markAnew 71 = .ok (.invokevirtual 231, 3) := by decide +kernel
theorem dX9_markAnew_74 : decode cX9_markAnew 74 = .ok (.invokevirtual 235, 3) := by decide +kernel
theorem dX9_markAnew_77 : decode cX9_markAnew 77 = .ok (.istore 4, 2) := by decide +kernel
theorem dX9_markAnew_79 : decode cX9_markAnew 79 = .ok (.aload_n 0, 1) := by decide +kernel
theorem dX9_markAnew_80 : decode cX9_markAnew 80 = .ok (.aload_n 0, 1) := by decide +kernel
theorem dX9_markAnew_81 : decode cX9_markAnew 81 = .ok (.iload_n 3, 1) := by decide +kernel
theorem dX9_markAnew_82 : decode cX9_markAnew 82 = .ok (.iconst 0, 1) := by decide +kernel
theorem dX9_markAnew_83 : decode cX9_markAnew 83 = .ok (.iconst 1, 1) := by decide +kernel
theorem dX9_markAnew_84 : decode cX9_markAnew 84 = .ok (.iconst 0, 1) := by decide +kernel
theorem dX9_markAnew_85 : decode cX9_markAnew 85 = .ok (.invokevirtual 231, 3) := by decide +kernel
theorem dX9_markAnew_88 : decode cX9_markAnew 88 = .ok (.invokevirtual 235, 3) := by decide +kernel
theorem dX9_markAnew_91 : decode cX9_markAnew 91 = .ok (.istore 5, 2) := by decide +kernel
theorem dX9_markAnew_93 : decode cX9_markAnew 93 = .ok (.iload 4, 2) := by decide +kernel
theorem dX9_markAnew_95 : decode cX9_markAnew 95 = .ok (.iconst (-1), 1) := by decide +kernel
theorem dX9_markAnew_96 : decode cX9_markAnew 96 = .ok (.if_icmp .eq 28, 3) := by decide +kernel
theorem dX9_markAnew_99 : decode cX9_markAnew 99 = .ok (.iload 5, 2) := by decide +kernel
theorem dX9_markAnew_101 : decode cX9_markAnew 101 = .ok (.iconst (-1), 1) := by decide +kernel
theorem dX9_markAnew_102 : decode cX9_markAnew 102 = .ok (.if_icmp .eq 22, 3) := by decide +kernel
theorem dX9_markAnew_105 : decode cX9_markAnew 105 = .ok (.iload 4, 2) := by decide +kernel
theorem dX9_markAnew_107 : decode cX9_markAnew 107 = .ok (.iload 5, 2) := by decide +kernel
theorem dX9_markAnew_109 : decode cX9_markAnew 109 = .ok (.aload_n 0, 1) := by decide +kernel
theorem dX9_markAnew_110 : decode cX9_markAnew 110 = .ok (.getfield 77, 3) := by decide +kernel
theorem dX9_markAnew_113 : decode cX9_markAnew 113 = .ok (.invokestatic 238, 3) := by decide +kernel
theorem dX9_markAnew_116 : decode cX9_markAnew 116 = .ok (.ifCond .eq 8, 3) := by decide +kernel
theorem dX9_markAnew_119 : decode cX9_markAnew 119 = .ok (.iload 5, 2) := by decide +kernel
theorem dX9_markAnew_121 : decode cX9_markAnew 121 = .ok (.goto 5, 3) := by decide +kernel
theorem dX9_markAnew_124 : decode cX9_markAnew 124 = .ok (.iload 4, 2) := by decide +kernel
theorem dX9_markAnew_126 : decode cX9_markAnew 126 = .ok (.ireturn, 1) := by decide +kernel
set_option maxRecDepth 20000 in
theorem ggX9_answer_X3_has : GoodIn wsX9_answer wsX3_has := goodIn_r _ [13, 14, 111, 112, 113, 114, 115, 116, 117] (by decide +kernel) (by decide +kernel)
set_option maxRecDepth 20000 in
theorem gX9_answer_X3_has : GoodIn wsX9_answer (wsV RX9 94 RX3 yX3_has wsX3_has) := goodIn_app (goodIn_of _ (by decide +kernel)) ggX9_answer_X3_has
set_option maxRecDepth 20000 in
theorem ggX9_answer_X9_isQuestion : GoodIn wsX9_answer wsX9_isQuestion := goodIn_r _ [18] (by decide +kernel) (by decide +kernel)
set_option maxRecDepth 20000 in
theorem gX9_answer_X9_isQuestion : GoodIn wsX9_answer (va_wsS RX9 116 yX9_isQuestion wsX9_isQuestion) := goodIn_app (goodIn_of _ (by decide +kernel)) ggX9_answer_X9_isQuestion
set_option maxRecDepth 20000 in
theorem ggX9_answer_X9_wantedBy : GoodIn wsX9_answer wsX9_wantedBy := goodIn_r _ [22, 5, 6, 23, 24, 25, 26, 27, 28, 12, 29, 30, 31, 32, 33, 34, 35, 36, 37, 38, 39, 17, 40, 41, 42, 43, 44, 45, 46, 47, 48, 49, 50, 51, 52, 53, 54, 55, 56, 57, 58, 59, 60, 61, 62, 63, 64, 65, 66, 67, 68, 69, 70, 71, 72, 73, 74, 75, 76, 77, 78, 79, 80, 81, 82, 83, 84, 85, 86, 87, 88, 89, 90, 91, 92, 93, 94, 95, 96, 97, 98, 99, 100, 101, 102, 103, 104, 105, 106, 107, 108, 109, 110, 111, 112, 113, 114, 115, 116, 117, 118, 119, 120, 121, 122, 123, 124, 125, 126, 127, 128, 129, 130, 131, 132, 133, 134, 135, 136, 137, 138, 139, 140, 141, 142, 143] (by decide +kernel) (by decide +kernel)
set_option maxRecDepth 20000 in
theorem gX9_answer_X9_wantedBy : GoodIn wsX9_answer (wsV RX9 242 RX9 yX9_wantedBy wsX9_wantedBy) := goodIn_app (goodIn_of _ (by decide +kernel)) ggX9_answer_X9_wantedBy
set_option maxRecDepth 20000 in
theorem ggX9_answer_X3_isAppealed : GoodIn wsX9_answer wsX3_isAppealed := goodIn_r _ [87, 88, 31, 32, 33, 34, 35, 36, 111, 112, 113, 114, 115, 116, 117, 118] (by decide +kernel) (by decide +kernel)
set_option maxRecDepth 20000 in
theorem gX9_answer_X3_isAppealed : GoodIn wsX9_answer (wsV RX9 210 RX3 yX3_isAppealed wsX3_isAppealed) := goodIn_app (goodIn_of _ (by decide +kernel)) ggX9_answer_X3_isAppealed
set_option maxRecDepth 20000 in
theorem ggX9_answer_X9_tallyUp : GoodIn wsX9_answer wsX9_tallyUp := goodIn_r _ [40, 6, 41, 42, 43, 44, 45, 46, 47, 48, 49, 50, 51, 52, 53, 54, 55, 56, 57, 58, 59, 60, 61, 62, 63, 17, 64, 65, 32, 33, 34, 35, 36, 66, 67, 68, 69, 70, 71, 72, 73, 89, 90, 91, 92, 93, 94, 95, 96, 97, 98, 99, 100, 101, 102, 103, 119, 120, 121, 122, 123, 124, 125, 126, 127, 128, 129, 130, 131, 132, 133, 134, 135, 136, 137, 138, 139, 140, 141, 142, 143, 104, 105, 106, 107, 108, 109, 110, 118] (by decide +kernel) (by decide +kernel)
set_option maxRecDepth 20000 in
theorem gX9_answer_X9_tallyUp : GoodIn wsX9_answer (wsV RX9 245 RX9 yX9_tallyUp wsX9_tallyUp) := goodIn_app (goodIn_of _ (by decide +kernel)) ggX9_answer_X9_tallyUp
theorem dX9_answer_0 : decode cX9_answer 0 = .ok (.aload_n 0, 1) := by decide +kernel
theorem dX9_answer_1 : decode cX9_answer 1 = .ok (.getfield 33, 3) := by decide +kernel
theorem dX9_answer_4 : decode cX9_answer 4 = .ok (.iload_n 1, 1) := by decide +kernel
theorem dX9_answer_5 : decode cX9_answer 5 = .ok (.invokevirtual 94, 3) := by decide +kernel
theorem dX9_answer_8 : decode cX9_answer 8 = .ok (.ifCond .eq 10, 3) := by decide +kernel
theorem dX9_answer_11 : decode cX9_answer 11 = .ok (.iload_n 2, 1) := by decide +kernel
theorem dX9_answer_12 : decode cX9_answer 12 = .ok (.invokestatic 116, 3) := by decide +kernel
theorem dX9_answer_15 : decode cX9_answer 15 = .ok (.ifCond .ne 11, 3) := by decide +kernel
theorem dX9_answer_18 : decode cX9_answer 18 = .ok (.new 98, 3) := by decide +kernel
theorem dX9_answer_21 : decode cX9_answer 21 = .ok (.dup, 1) := by decide +kernel
theorem dX9_answer_22 : decode cX9_answer 22 = .ok (.invokespecial 100, 3) := by decide +kernel
theorem dX9_answer_25 : decode cX9_answer 25 = .ok (.athrow, 1) := by decide +kernel
theorem dX9_answer_26 : decode cX9_answer 26 = .ok (.iload_n 3, 1) := by decide +kernel
theorem dX9_answer_27 : decode cX9_answer 27 = .ok (.ifCond .lt 8, 3) := by decide +kernel
theorem dX9_answer_30 : decode cX9_answer 30 = .ok (.iload_n 3, 1) := by decide +kernel
theorem dX9_answer_31 : decode cX9_answer 31 = .ok (.iconst 3, 1) := by decide +kernel
theorem dX9_answer_32 : decode cX9_answer 32 = .ok (.if_icmp .le 11, 3) := by decide +kernel
theorem dX9_answer_35 : decode cX9_answer 35 = .ok (.new 81, 3) := by decide +kernel
theorem dX9_answer_38 : decode cX9_answer 38 = .ok (.dup, 1) := by decide +kernel
theorem dX9_answer_39 : decode cX9_answer 39 = .ok (.invokespecial 83, 3) := by decide +kernel
theorem dX9_answer_42 : decode cX9_answer 42 = .ok (.athrow, 1) := by decide +kernel
theorem dX9_answer_43 : decode cX9_answer 43 = .ok (.iload_n 3, 1) := by decide +kernel
theorem dX9_answer_44 : decode cX9_answer 44 = .ok (.iconst 2, 1) := by decide +kernel
theorem dX9_answer_45 : decode cX9_answer 45 = .ok (.if_icmp .ne 10, 3) := by decide +kernel
theorem dX9_answer_48 : decode cX9_answer 48 = .ok (.aload_n 0, 1) := by decide +kernel
theorem dX9_answer_49 : decode cX9_answer 49 = .ok (.iload_n 1, 1) := by decide +kernel
theorem dX9_answer_50 : decode cX9_answer 50 = .ok (.iload_n 2, 1) := by decide +kernel
theorem dX9_answer_51 : decode cX9_answer 51 = .ok (.invokevirtual 242, 3) := by decide +kernel
theorem dX9_answer_54 : decode cX9_answer 54 = .ok (.ireturn, 1) := by decide +kernel
theorem dX9_answer_55 : decode cX9_answer 55 = .ok (.iload_n 3, 1) := by decide +kernel
theorem dX9_answer_56 : decode cX9_answer 56 = .ok (.iconst 3, 1) := by decide +kernel
theorem dX9_answer_57 : decode cX9_answer 57 = .ok (.if_icmp .ne 21, 3) := by decide +kernel
theorem dX9_answer_60 : decode cX9_answer 60 = .ok (.aload_n 0, 1) := by decide +kernel
theorem dX9_answer_61 : decode cX9_answer 61 = .ok (.getfield 33, 3) := by decide +kernel
theorem dX9_answer_64 : decode cX9_answer 64 = .ok (.iload_n 1, 1) := by decide +kernel
theorem dX9_answer_65 : decode cX9_answer 65 = .ok (.iload_n 2, 1) := by decide +kernel
theorem dX9_answer_66 : decode cX9_answer 66 = .ok (.invokevirtual 210, 3) := by decide +kernel
theorem dX9_answer_69 : decode cX9_answer 69 = .ok (.ifCond .eq 7, 3) := by decide +kernel
theorem dX9_answer_72 : decode cX9_answer 72 = .ok (.iconst 1, 1) := by decide +kernel
theorem dX9_answer_73 : decode cX9_answer 73 = .ok (.goto 4, 3) := by decide +kernel
theorem dX9_answer_76 : decode cX9_answer 76 = .ok (.iconst 0, 1) := by decide +kernel
theorem dX9_answer_77 : decode cX9_answer 77 = .ok (.ireturn, 1) := by decide +kernel
theorem dX9_answer_78 : decode cX9_answer 78 = .ok (.aload_n 0, 1) := by decide +kernel
theorem dX9_answer_79 : decode cX9_answer 79 = .ok (.iload_n 1, 1) := by decide +kernel
theorem dX9_answer_80 : decode cX9_answer 80 = .ok (.iload_n 2, 1) := by decide +kernel
theorem dX9_answer_81 : decode cX9_answer 81 = .ok (.invokevirtual 245, 3) := by decide +kernel
theorem dX9_answer_84 : decode cX9_answer 84 = .ok (.iload_n 3, 1) := by decide +kernel
theorem dX9_answer_85 : decode cX9_answer 85 = .ok (.ifCond .ne 13, 3) := by decide +kernel
theorem dX9_answer_88 : decode cX9_answer 88 = .ok (.aload_n 0, 1) := by decide +kernel
theorem dX9_answer_89 : decode cX9_answer 89 = .ok (.getfield 61, 3) := by decide +kernel
theorem dX9_answer_92 : decode cX9_answer 92 = .ok (.getfield 248, 3) := by decide +kernel
theorem dX9_answer_95 : decode cX9_answer 95 = .ok (.goto 10, 3) := by decide +kernel
theorem dX9_answer_98 : decode cX9_answer 98 = .ok (.aload_n 0, 1) := by decide +kernel
theorem dX9_answer_99 : decode cX9_answer 99 = .ok (.getfield 61, 3) := by decide +kernel
theorem dX9_answer_102 : decode cX9_answer 102 = .ok (.getfield 251, 3) := by decide +kernel
theorem dX9_answer_105 : decode cX9_answer 105 = .ok (.ireturn, 1) := by decide +kernel
set_option maxRecDepth 20000 in
theorem ggX9_total_X3_has : GoodIn wsX9_total wsX3_has := goodIn_r _ [8, 9, 104, 105, 106, 107, 108, 109, 110] (by decide +kernel) (by decide +kernel)
set_option maxRecDepth 20000 in
theorem gX9_total_X3_has : GoodIn wsX9_total (wsV RX9 94 RX3 yX3_has wsX3_has) := goodIn_app (goodIn_of _ (by decide +kernel)) ggX9_total_X3_has
set_option maxRecDepth 20000 in
theorem ggX9_total_X9_totalNow : GoodIn wsX9_total wsX9_totalNow := goodIn_r _ [14, 15, 16, 17, 18, 3, 19, 20, 21, 22, 13, 23, 24, 25, 26, 27, 28, 29, 7, 30, 31, 32, 33, 34, 35, 36, 37, 38, 39, 40, 41, 42, 43, 44, 45, 46, 47, 48, 49, 50, 51, 52, 53, 54, 55, 56, 57, 58, 59, 60, 61, 62, 63, 64, 65, 66, 67, 68, 69, 70, 71, 72, 73, 74, 75, 76, 77, 78, 79, 80, 81, 82, 83, 84, 85, 86, 87, 88, 89, 90, 91, 92, 93, 94, 95, 96, 97, 98, 99, 100, 101, 102, 103, 104, 105, 106, 107, 108, 109, 110, 111, 112, 113, 114, 115, 116, 117, 118, 119, 120, 121, 122, 123, 124, 125, 126, 127, 128, 129, 130, 131, 132, 133, 134, 135, 136, 137, 138, 139, 140, 141, 142, 143] (by decide +kernel) (by decide +kernel)
set_option maxRecDepth 20000 in
theorem gX9_total_X9_totalNow : GoodIn wsX9_total (wsV RX9 254 RX9 yX9_totalNow wsX9_totalNow) := goodIn_app (goodIn_of _ (by decide +kernel)) ggX9_total_X9_totalNow
theorem dX9_total_0 : decode cX9_total 0 = .ok (.aload_n 0, 1) := by decide +kernel
theorem dX9_total_1 : decode cX9_total 1 = .ok (.getfield 33, 3) := by decide +kernel
theorem dX9_total_4 : decode cX9_total 4 = .ok (.iload_n 1, 1) := by decide +kernel
theorem dX9_total_5 : decode cX9_total 5 = .ok (.invokevirtual 94, 3) := by decide +kernel
theorem dX9_total_8 : decode cX9_total 8 = .ok (.ifCond .ne 11, 3) := by decide +kernel
theorem dX9_total_11 : decode cX9_total 11 = .ok (.new 98, 3) := by decide +kernel
theorem dX9_total_14 : decode cX9_total 14 = .ok (.dup, 1) := by decide +kernel
theorem dX9_total_15 : decode cX9_total 15 = .ok (.invokespecial 100, 3) := by decide +kernel
theorem dX9_total_18 : decode cX9_total 18 = .ok (.athrow, 1) := by decide +kernel
theorem dX9_total_19 : decode cX9_total 19 = .ok (.aload_n 0, 1) := by decide +kernel
theorem dX9_total_20 : decode cX9_total 20 = .ok (.iload_n 1, 1) := by decide +kernel
theorem dX9_total_21 : decode cX9_total 21 = .ok (.invokevirtual 254, 3) := by decide +kernel
theorem dX9_total_24 : decode cX9_total 24 = .ok (.ireturn, 1) := by decide +kernel
set_option maxRecDepth 20000 in
theorem ggX9_grade_X3_has : GoodIn wsX9_grade wsX3_has := goodIn_r _ [9, 10, 112, 113, 114, 115, 116, 117, 118] (by decide +kernel) (by decide +kernel)
set_option maxRecDepth 20000 in
theorem gX9_grade_X3_has : GoodIn wsX9_grade (wsV RX9 94 RX3 yX3_has wsX3_has) := goodIn_app (goodIn_of _ (by decide +kernel)) ggX9_grade_X3_has
set_option maxRecDepth 20000 in
theorem ggX9_grade_X5_get : GoodIn wsX9_grade wsX5_get := goodIn_r _ [15, 16, 119] (by decide +kernel) (by decide +kernel)
set_option maxRecDepth 20000 in
theorem gX9_grade_X5_get : GoodIn wsX9_grade (wsV RX9 104 RX5 yX5_get wsX5_get) := goodIn_app (goodIn_of _ (by decide +kernel)) ggX9_grade_X5_get
set_option maxRecDepth 20000 in
theorem ggX9_grade_X9_gradeNow : GoodIn wsX9_grade wsX9_gradeNow := goodIn_r _ [21, 22, 23, 24, 25, 26, 27, 20, 28, 29, 30, 31, 32, 3, 33, 34, 35, 36, 37, 38, 39, 40, 41, 42, 43, 8, 44, 45, 46, 12, 13, 14, 15, 16, 47, 48, 49, 50, 51, 52, 53, 54, 55, 56, 57, 58, 59, 60, 61, 62, 63, 64, 65, 66, 67, 68, 69, 70, 71, 72, 73, 74, 11, 75, 76, 77, 78, 79, 80, 81, 82, 83, 84, 85, 86, 87, 88, 89, 90, 91, 92, 93, 94, 95, 96, 97, 98, 99, 100, 101, 102, 103, 104, 105, 106, 107, 108, 109, 110, 111, 112, 113, 114, 115, 116, 117, 118, 119, 120, 121, 122, 123, 124, 125, 126, 127, 128, 129, 130, 131, 132, 133, 134, 135, 136, 137, 138, 139, 140, 141, 142, 143, 144, 145, 146, 147, 148, 149, 150, 151] (by decide +kernel) (by decide +kernel)
set_option maxRecDepth 20000 in
theorem gX9_grade_X9_gradeNow : GoodIn wsX9_grade (wsV RX9 197 RX9 yX9_gradeNow wsX9_gradeNow) := goodIn_app (goodIn_of _ (by decide +kernel)) ggX9_grade_X9_gradeNow
theorem dX9_grade_0 : decode cX9_grade 0 = .ok (.aload_n 0, 1) := by decide +kernel
theorem dX9_grade_1 : decode cX9_grade 1 = .ok (.getfield 33, 3) := by decide +kernel
theorem dX9_grade_4 : decode cX9_grade 4 = .ok (.iload_n 1, 1) := by decide +kernel
theorem dX9_grade_5 : decode cX9_grade 5 = .ok (.invokevirtual 94, 3) := by decide +kernel
theorem dX9_grade_8 : decode cX9_grade 8 = .ok (.ifCond .ne 11, 3) := by decide +kernel
theorem dX9_grade_11 : decode cX9_grade 11 = .ok (.new 98, 3) := by decide +kernel
theorem dX9_grade_14 : decode cX9_grade 14 = .ok (.dup, 1) := by decide +kernel
theorem dX9_grade_15 : decode cX9_grade 15 = .ok (.invokespecial 100, 3) := by decide +kernel
theorem dX9_grade_18 : decode cX9_grade 18 = .ok (.athrow, 1) := by decide +kernel
theorem dX9_grade_19 : decode cX9_grade 19 = .ok (.iload_n 2, 1) := by decide +kernel
theorem dX9_grade_20 : decode cX9_grade 20 = .ok (.ifCond .eq 17, 3) := by decide +kernel
theorem dX9_grade_23 : decode cX9_grade 23 = .ok (.aload_n 0, 1) := by decide +kernel
theorem dX9_grade_24 : decode cX9_grade 24 = .ok (.getfield 33, 3) := by decide +kernel
theorem dX9_grade_27 : decode cX9_grade 27 = .ok (.getfield 200, 3) := by decide +kernel
theorem dX9_grade_30 : decode cX9_grade 30 = .ok (.iload_n 1, 1) := by decide +kernel
theorem dX9_grade_31 : decode cX9_grade 31 = .ok (.invokevirtual 104, 3) := by decide +kernel
theorem dX9_grade_34 : decode cX9_grade 34 = .ok (.goto 8, 3) := by decide +kernel
theorem dX9_grade_37 : decode cX9_grade 37 = .ok (.aload_n 0, 1) := by decide +kernel
theorem dX9_grade_38 : decode cX9_grade 38 = .ok (.iload_n 1, 1) := by decide +kernel
theorem dX9_grade_39 : decode cX9_grade 39 = .ok (.invokevirtual 197, 3) := by decide +kernel
theorem dX9_grade_42 : decode cX9_grade 42 = .ok (.ireturn, 1) := by decide +kernel
set_option maxRecDepth 20000 in
theorem ggX9_changed_X5_get : GoodIn wsX9_changed wsX5_get := goodIn_r _ [8, 9, 113] (by decide +kernel) (by decide +kernel)
set_option maxRecDepth 20000 in
theorem gX9_changed_X5_get : GoodIn wsX9_changed (wsV RX9 104 RX5 yX5_get wsX5_get) := goodIn_app (goodIn_of _ (by decide +kernel)) ggX9_changed_X5_get
set_option maxRecDepth 20000 in
theorem ggX9_changed_X9_gradeNow : GoodIn wsX9_changed wsX9_gradeNow := goodIn_r _ [14, 15, 16, 17, 18, 19, 20, 13, 21, 22, 23, 24, 25, 1, 26, 27, 28, 29, 30, 31, 32, 33, 34, 35, 36, 37, 38, 39, 40, 5, 6, 7, 8, 9, 41, 42, 43, 44, 45, 46, 47, 48, 49, 50, 51, 52, 53, 54, 55, 56, 57, 58, 59, 60, 61, 62, 63, 64, 65, 66, 67, 68, 4, 69, 70, 71, 72, 73, 74, 75, 76, 77, 78, 79, 80, 81, 82, 83, 84, 85, 86, 87, 88, 89, 90, 91, 92, 93, 94, 95, 96, 97, 98, 99, 100, 101, 102, 103, 104, 105, 106, 107, 108, 109, 110, 111, 112, 113, 114, 115, 116, 117, 118, 119, 120, 121, 122, 123, 124, 125, 126, 127, 128, 129, 130, 131, 132, 133, 134, 135, 136, 137, 138, 139, 140, 141, 142, 143, 144, 145] (by decide +kernel) (by decide +kernel)
set_option maxRecDepth 20000 in
theorem gX9_changed_X9_gradeNow : GoodIn wsX9_changed (wsV RX9 197 RX9 yX9_gradeNow wsX9_gradeNow) := goodIn_app (goodIn_of _ (by decide +kernel)) ggX9_changed_X9_gradeNow
theorem dX9_changed_0 : decode cX9_changed 0 = .ok (.iconst 0, 1) := by decide +kernel
theorem dX9_changed_1 : decode cX9_changed 1 = .ok (.istore_n 1, 1) := by decide +kernel
theorem dX9_changed_2 : decode cX9_changed 2 = .ok (.iconst 0, 1) := by decide +kernel
theorem dX9_changed_3 : decode cX9_changed 3 = .ok (.istore_n 2, 1) := by decide +kernel
theorem dX9_changed_4 : decode cX9_changed 4 = .ok (.iload_n 2, 1) := by decide +kernel
theorem dX9_changed_5 : decode cX9_changed 5 = .ok (.aload_n 0, 1) := by decide +kernel
theorem dX9_changed_6 : decode cX9_changed 6 = .ok (.getfield 33, 3) := by decide +kernel
theorem dX9_changed_9 : decode cX9_changed 9 = .ok (.getfield 84, 3) := by decide +kernel
theorem dX9_changed_12 : decode cX9_changed 12 = .ok (.if_icmp .ge 38, 3) := by decide +kernel
theorem dX9_changed_15 : decode cX9_changed 15 = .ok (.aload_n 0, 1) := by decide +kernel
theorem dX9_changed_16 : decode cX9_changed 16 = .ok (.getfield 33, 3) := by decide +kernel
theorem dX9_changed_19 : decode cX9_changed 19 = .ok (.getfield 200, 3) := by decide +kernel
theorem dX9_changed_22 : decode cX9_changed 22 = .ok (.iload_n 2, 1) := by decide +kernel
theorem dX9_changed_23 : decode cX9_changed 23 = .ok (.invokevirtual 104, 3) := by decide +kernel
theorem dX9_changed_26 : decode cX9_changed 26 = .ok (.istore_n 3, 1) := by decide +kernel
theorem dX9_changed_27 : decode cX9_changed 27 = .ok (.iload_n 3, 1) := by decide +kernel
theorem dX9_changed_28 : decode cX9_changed 28 = .ok (.iconst (-1), 1) := by decide +kernel
theorem dX9_changed_29 : decode cX9_changed 29 = .ok (.if_icmp .eq 15, 3) := by decide +kernel
theorem dX9_changed_32 : decode cX9_changed 32 = .ok (.iload_n 3, 1) := by decide +kernel
theorem dX9_changed_33 : decode cX9_changed 33 = .ok (.aload_n 0, 1) := by decide +kernel
theorem dX9_changed_34 : decode cX9_changed 34 = .ok (.iload_n 2, 1) := by decide +kernel
theorem dX9_changed_35 : decode cX9_changed 35 = .ok (.invokevirtual 197, 3) := by decide +kernel
theorem dX9_changed_38 : decode cX9_changed 38 = .ok (.if_icmp .eq 6, 3) := by decide +kernel
theorem dX9_changed_41 : decode cX9_changed 41 = .ok (.iinc 1 1, 3) := by decide +kernel
theorem dX9_changed_44 : decode cX9_changed 44 = .ok (.iinc 2 1, 3) := by decide +kernel
theorem dX9_changed_47 : decode cX9_changed 47 = .ok (.goto (-43), 3) := by decide +kernel
theorem dX9_changed_50 : decode cX9_changed 50 = .ok (.iload_n 1, 1) := by decide +kernel
theorem dX9_changed_51 : decode cX9_changed 51 = .ok (.ireturn, 1) := by decide +kernel
set_option maxRecDepth 20000 in
theorem ggX9_lineOf_X9_gatherTotals : GoodIn wsX9_lineOf wsX9_gatherTotals := goodIn_r _ [8, 9, 10, 3, 11, 12, 13, 7, 14, 15, 16, 17, 18, 19, 20, 21, 22, 23, 24, 25, 26, 27, 28, 29, 30, 31, 32, 33, 34, 35, 36, 37, 38, 39, 40, 41, 42, 43, 44, 45, 46, 47, 48, 49, 50, 51, 52, 53, 54, 55, 56, 57, 58, 59, 60, 61, 62, 63, 64, 65, 66, 67, 68, 69, 70, 71, 72, 73, 74, 75, 76, 77, 78, 79, 80, 81, 82, 83, 84, 85, 86, 87, 88, 89, 90, 91, 92, 93, 102, 103, 104, 105, 106, 107, 108, 109, 110, 111, 112, 113, 114, 115, 116, 117, 118, 119, 120, 121, 122, 123, 124, 125, 126, 127, 128, 129, 130, 131, 132, 133, 134, 135, 136, 137, 138, 139, 140, 141, 142, 143, 144, 145, 146, 147, 148, 149, 150, 151, 152, 153, 154, 155, 156] (by decide +kernel) (by decide +kernel)
set_option maxRecDepth 20000 in
theorem gX9_lineOf_X9_gatherTotals : GoodIn wsX9_lineOf (wsV RX9 190 RX9 yX9_gatherTotals wsX9_gatherTotals) := goodIn_app (goodIn_of _ (by decide +kernel)) ggX9_lineOf_X9_gatherTotals
set_option maxRecDepth 20000 in
theorem ggX9_lineOf_X9_isWithin : GoodIn wsX9_lineOf wsX9_isWithin := goodIn_r _ [97, 98, 99, 100, 7, 101, 3, 67, 34, 35, 36, 37, 38, 102, 103, 104, 105, 106, 107, 108, 109, 110, 111, 112, 113, 114, 115, 116, 124] (by decide +kernel) (by decide +kernel)
set_option maxRecDepth 20000 in
theorem gX9_lineOf_X9_isWithin : GoodIn wsX9_lineOf (wsV RX9 257 RX9 yX9_isWithin wsX9_isWithin) := goodIn_app (goodIn_of _ (by decide +kernel)) ggX9_lineOf_X9_isWithin
set_option maxRecDepth 20000 in
theorem ggX9_lineOf_X5_get : GoodIn wsX9_lineOf wsX5_get := goodIn_r _ [37, 38, 124] (by decide +kernel) (by decide +kernel)
set_option maxRecDepth 20000 in
theorem gX9_lineOf_X5_get : GoodIn wsX9_lineOf (wsV RX9 104 RX5 yX5_get wsX5_get) := goodIn_app (goodIn_of _ (by decide +kernel)) ggX9_lineOf_X5_get
theorem dX9_lineOf_0 : decode cX9_lineOf 0 = .ok (.iload_n 1, 1) := by decide +kernel
theorem dX9_lineOf_1 : decode cX9_lineOf 1 = .ok (.ifCond .lt 9, 3) := by decide +kernel
theorem dX9_lineOf_4 : decode cX9_lineOf 4 = .ok (.iload_n 1, 1) := by decide +kernel
theorem dX9_lineOf_5 : decode cX9_lineOf 5 = .ok (.bipush 100, 2) := by decide +kernel
theorem dX9_lineOf_7 : decode cX9_lineOf 7 = .ok (.if_icmp .le 11, 3) := by decide +kernel
theorem dX9_lineOf_10 : decode cX9_lineOf 10 = .ok (.new 81, 3) := by decide +kernel
theorem dX9_lineOf_13 : decode cX9_lineOf 13 = .ok (.dup, 1) := by decide +kernel
theorem dX9_lineOf_14 : decode cX9_lineOf 14 = .ok (.invokespecial 83, 3) := by decide +kernel
theorem dX9_lineOf_17 : decode cX9_lineOf 17 = .ok (.athrow, 1) := by decide +kernel
theorem dX9_lineOf_18 : decode cX9_lineOf 18 = .ok (.aload_n 0, 1) := by decide +kernel
theorem dX9_lineOf_19 : decode cX9_lineOf 19 = .ok (.invokevirtual 190, 3) := by decide +kernel
theorem dX9_lineOf_22 : decode cX9_lineOf 22 = .ok (.istore_n 2, 1) := by decide +kernel
theorem dX9_lineOf_23 : decode cX9_lineOf 23 = .ok (.aload_n 0, 1) := by decide +kernel
theorem dX9_lineOf_24 : decode cX9_lineOf 24 = .ok (.iconst 0, 1) := by decide +kernel
theorem dX9_lineOf_25 : decode cX9_lineOf 25 = .ok (.iload_n 1, 1) := by decide +kernel
theorem dX9_lineOf_26 : decode cX9_lineOf 26 = .ok (.iload_n 2, 1) := by decide +kernel
theorem dX9_lineOf_27 : decode cX9_lineOf 27 = .ok (.invokevirtual 257, 3) := by decide +kernel
theorem dX9_lineOf_30 : decode cX9_lineOf 30 = .ok (.ifCond .eq 5, 3) := by decide +kernel
theorem dX9_lineOf_33 : decode cX9_lineOf 33 = .ok (.iconst 0, 1) := by decide +kernel
theorem dX9_lineOf_34 : decode cX9_lineOf 34 = .ok (.ireturn, 1) := by decide +kernel
theorem dX9_lineOf_35 : decode cX9_lineOf 35 = .ok (.sipush 999, 3) := by decide +kernel
theorem dX9_lineOf_38 : decode cX9_lineOf 38 = .ok (.istore_n 3, 1) := by decide +kernel
theorem dX9_lineOf_39 : decode cX9_lineOf 39 = .ok (.iconst 0, 1) := by decide +kernel
theorem dX9_lineOf_40 : decode cX9_lineOf 40 = .ok (.istore 4, 2) := by decide +kernel
theorem dX9_lineOf_42 : decode cX9_lineOf 42 = .ok (.iload 4, 2) := by decide +kernel
theorem dX9_lineOf_44 : decode cX9_lineOf 44 = .ok (.iload_n 2, 1) := by decide +kernel
theorem dX9_lineOf_45 : decode cX9_lineOf 45 = .ok (.if_icmp .ge 42, 3) := by decide +kernel
theorem dX9_lineOf_48 : decode cX9_lineOf 48 = .ok (.aload_n 0, 1) := by decide +kernel
theorem dX9_lineOf_49 : decode cX9_lineOf 49 = .ok (.getfield 74, 3) := by decide +kernel
theorem dX9_lineOf_52 : decode cX9_lineOf 52 = .ok (.iload 4, 2) := by decide +kernel
theorem dX9_lineOf_54 : decode cX9_lineOf 54 = .ok (.invokevirtual 104, 3) := by decide +kernel
theorem dX9_lineOf_57 : decode cX9_lineOf 57 = .ok (.iconst 1, 1) := by decide +kernel
theorem dX9_lineOf_58 : decode cX9_lineOf 58 = .ok (.iadd, 1) := by decide +kernel
theorem dX9_lineOf_59 : decode cX9_lineOf 59 = .ok (.istore 5, 2) := by decide +kernel
theorem dX9_lineOf_61 : decode cX9_lineOf 61 = .ok (.iload 5, 2) := by decide +kernel
theorem dX9_lineOf_63 : decode cX9_lineOf 63 = .ok (.iload_n 3, 1) := by decide +kernel
theorem dX9_lineOf_64 : decode cX9_lineOf 64 = .ok (.if_icmp .ge 17, 3) := by decide +kernel
theorem dX9_lineOf_67 : decode cX9_lineOf 67 = .ok (.aload_n 0, 1) := by decide +kernel
theorem dX9_lineOf_68 : decode cX9_lineOf 68 = .ok (.iload 5, 2) := by decide +kernel
theorem dX9_lineOf_70 : decode cX9_lineOf 70 = .ok (.iload_n 1, 1) := by decide +kernel
theorem dX9_lineOf_71 : decode cX9_lineOf 71 = .ok (.iload_n 2, 1) := by decide +kernel
theorem dX9_lineOf_72 : decode cX9_lineOf 72 = .ok (.invokevirtual 257, 3) := by decide +kernel
theorem dX9_lineOf_75 : decode cX9_lineOf 75 = .ok (.ifCond .eq 6, 3) := by decide +kernel
theorem dX9_lineOf_78 : decode cX9_lineOf 78 = .ok (.iload 5, 2) := by decide +kernel
theorem dX9_lineOf_80 : decode cX9_lineOf 80 = .ok (.istore_n 3, 1) := by decide +kernel
theorem dX9_lineOf_81 : decode cX9_lineOf 81 = .ok (.iinc 4 1, 3) := by decide +kernel
theorem dX9_lineOf_84 : decode cX9_lineOf 84 = .ok (.goto (-42), 3) := by decide +kernel
theorem dX9_lineOf_87 : decode cX9_lineOf 87 = .ok (.iload_n 3, 1) := by decide +kernel
theorem dX9_lineOf_88 : decode cX9_lineOf 88 = .ok (.ireturn, 1) := by decide +kernel
set_option maxRecDepth 20000 in
theorem ggX9_lineAnew_X9_gatherTotals : GoodIn wsX9_lineAnew wsX9_gatherTotals := goodIn_r _ [7, 8, 9, 10, 11, 12, 13, 6, 14, 15, 16, 17, 18, 19, 20, 21, 22, 23, 24, 25, 26, 27, 28, 29, 30, 31, 32, 33, 34, 35, 36, 37, 38, 39, 40, 41, 42, 43, 44, 45, 46, 47, 48, 49, 50, 51, 52, 53, 54, 55, 56, 57, 58, 59, 60, 61, 62, 63, 64, 65, 66, 67, 68, 69, 70, 71, 72, 73, 74, 75, 76, 77, 78, 79, 80, 81, 82, 83, 84, 85, 86, 87, 88, 89, 90, 91, 92, 93, 102, 103, 104, 105, 106, 107, 108, 109, 110, 111, 112, 113, 114, 115, 116, 117, 118, 119, 120, 121, 122, 123, 124, 125, 126, 127, 128, 129, 130, 131, 132, 133, 134, 135, 136, 137, 138, 139, 140, 141, 142, 143, 144, 145, 146, 147, 148, 149, 150, 151, 152, 153, 154, 155, 156] (by decide +kernel) (by decide +kernel)
set_option maxRecDepth 20000 in
theorem gX9_lineAnew_X9_gatherTotals : GoodIn wsX9_lineAnew (wsV RX9 190 RX9 yX9_gatherTotals wsX9_gatherTotals) := goodIn_app (goodIn_of _ (by decide +kernel)) ggX9_lineAnew_X9_gatherTotals
set_option maxRecDepth 20000 in
theorem ggX9_lineAnew_X9_isWithin : GoodIn wsX9_lineAnew wsX9_isWithin := goodIn_r _ [97, 98, 99, 100, 6, 101, 10, 67, 34, 35, 36, 37, 38, 102, 103, 104, 105, 106, 107, 108, 109, 110, 111, 112, 113, 114, 115, 116, 124] (by decide +kernel) (by decide +kernel)
set_option maxRecDepth 20000 in
theorem gX9_lineAnew_X9_isWithin : GoodIn wsX9_lineAnew (wsV RX9 257 RX9 yX9_isWithin wsX9_isWithin) := goodIn_app (goodIn_of _ (by decide +kernel)) ggX9_lineAnew_X9_isWithin
theorem dX9_lineAnew_0 : decode cX9_lineAnew 0 = .ok (.iload_n 1, 1) := by decide +kernel
theorem dX9_lineAnew_1 : decode cX9_lineAnew 1 = .ok (.ifCond .lt 9, 3) := by decide +kernel
theorem dX9_lineAnew_4 : decode cX9_lineAnew 4 = .ok (.iload_n 1, 1) := by decide +kernel
theorem dX9_lineAnew_5 : decode cX9_lineAnew 5 = .ok (.bipush 100, 2) := by decide +kernel
theorem dX9_lineAnew_7 : decode cX9_lineAnew 7 = .ok (.if_icmp .le 11, 3) := by decide +kernel
theorem dX9_lineAnew_10 : decode cX9_lineAnew 10 = .ok (.new 81, 3) := by decide +kernel
theorem dX9_lineAnew_13 : decode cX9_lineAnew 13 = .ok (.dup, 1) := by decide +kernel
theorem dX9_lineAnew_14 : decode cX9_lineAnew 14 = .ok (.invokespecial 83, 3) := by decide +kernel
theorem dX9_lineAnew_17 : decode cX9_lineAnew 17 = .ok (.athrow, 1) := by decide +kernel
theorem dX9_lineAnew_18 : decode cX9_lineAnew 18 = .ok (.aload_n 0, 1) := by decide +kernel
theorem dX9_lineAnew_19 : decode cX9_lineAnew 19 = .ok (.invokevirtual 190, 3) := by decide +kernel
theorem dX9_lineAnew_22 : decode cX9_lineAnew 22 = .ok (.istore_n 2, 1) := by decide +kernel
theorem dX9_lineAnew_23 : decode cX9_lineAnew 23 = .ok (.iconst 0, 1) := by decide +kernel
theorem dX9_lineAnew_24 : decode cX9_lineAnew 24 = .ok (.istore_n 3, 1) := by decide +kernel
theorem dX9_lineAnew_25 : decode cX9_lineAnew 25 = .ok (.iload_n 3, 1) := by decide +kernel
theorem dX9_lineAnew_26 : decode cX9_lineAnew 26 = .ok (.sipush 999, 3) := by decide +kernel
theorem dX9_lineAnew_29 : decode cX9_lineAnew 29 = .ok (.if_icmp .ge 21, 3) := by decide +kernel
theorem dX9_lineAnew_32 : decode cX9_lineAnew 32 = .ok (.aload_n 0, 1) := by decide +kernel
theorem dX9_lineAnew_33 : decode cX9_lineAnew 33 = .ok (.iload_n 3, 1) := by decide +kernel
theorem dX9_lineAnew_34 : decode cX9_lineAnew 34 = .ok (.iload_n 1, 1) := by decide +kernel
theorem dX9_lineAnew_35 : decode cX9_lineAnew 35 = .ok (.iload_n 2, 1) := by decide +kernel
theorem dX9_lineAnew_36 : decode cX9_lineAnew 36 = .ok (.invokevirtual 257, 3) := by decide +kernel
theorem dX9_lineAnew_39 : decode cX9_lineAnew 39 = .ok (.ifCond .eq 5, 3) := by decide +kernel
theorem dX9_lineAnew_42 : decode cX9_lineAnew 42 = .ok (.iload_n 3, 1) := by decide +kernel
theorem dX9_lineAnew_43 : decode cX9_lineAnew 43 = .ok (.ireturn, 1) := by decide +kernel
theorem dX9_lineAnew_44 : decode cX9_lineAnew 44 = .ok (.iinc 3 1, 3) := by decide +kernel
theorem dX9_lineAnew_47 : decode cX9_lineAnew 47 = .ok (.goto (-22), 3) := by decide +kernel
theorem dX9_lineAnew_50 : decode cX9_lineAnew 50 = .ok (.sipush 999, 3) := by decide +kernel
theorem dX9_lineAnew_53 : decode cX9_lineAnew 53 = .ok (.ireturn, 1) := by decide +kernel
set_option maxRecDepth 20000 in
theorem ggX9_ofReader_X4_has : GoodIn wsX9_ofReader wsX4_has := goodIn_r _ [16, 17, 46, 47, 48, 49, 50, 51, 52, 53, 54, 55, 56, 57, 58] (by decide +kernel) (by decide +kernel)
set_option maxRecDepth 20000 in
theorem gX9_ofReader_X4_has : GoodIn wsX9_ofReader (wsV RX9 154 RX4 yX4_has wsX4_has) := goodIn_app (goodIn_of _ (by decide +kernel)) ggX9_ofReader_X4_has
set_option maxRecDepth 20000 in
theorem ggX9_ofReader_X5_get : GoodIn wsX9_ofReader wsX5_get := goodIn_r _ [22, 23, 59] (by decide +kernel) (by decide +kernel)
set_option maxRecDepth 20000 in
theorem gX9_ofReader_X5_get : GoodIn wsX9_ofReader (wsV RX9 104 RX5 yX5_get wsX5_get) := goodIn_app (goodIn_of _ (by decide +kernel)) ggX9_ofReader_X5_get
set_option maxRecDepth 20000 in
theorem ggX9_ofReader_J6_bitCount_0f7a4 : GoodIn wsX9_ofReader wsJ6_bitCount_0f7a4 := goodIn_r _ [27, 28, 29, 30] (by decide +kernel) (by decide +kernel)
set_option maxRecDepth 20000 in
theorem gX9_ofReader_J6_bitCount_0f7a4 : GoodIn wsX9_ofReader (va_wsS RX9 269 yJ6_bitCount_0f7a4 wsJ6_bitCount_0f7a4) := goodIn_app (goodIn_of _ (by decide +kernel)) ggX9_ofReader_J6_bitCount_0f7a4
theorem dX9_ofReader_0 : decode cX9_ofReader 0 = .ok (.aload_n 0, 1) := by decide +kernel
theorem dX9_ofReader_1 : decode cX9_ofReader 1 = .ok (.getfield 40, 3) := by decide +kernel
theorem dX9_ofReader_4 : decode cX9_ofReader 4 = .ok (.iload_n 1, 1) := by decide +kernel
theorem dX9_ofReader_5 : decode cX9_ofReader 5 = .ok (.invokevirtual 154, 3) := by decide +kernel
theorem dX9_ofReader_8 : decode cX9_ofReader 8 = .ok (.ifCond .ne 11, 3) := by decide +kernel
theorem dX9_ofReader_11 : decode cX9_ofReader 11 = .ok (.new 98, 3) := by decide +kernel
theorem dX9_ofReader_14 : decode cX9_ofReader 14 = .ok (.dup, 1) := by decide +kernel
theorem dX9_ofReader_15 : decode cX9_ofReader 15 = .ok (.invokespecial 100, 3) := by decide +kernel
theorem dX9_ofReader_18 : decode cX9_ofReader 18 = .ok (.athrow, 1) := by decide +kernel
theorem dX9_ofReader_19 : decode cX9_ofReader 19 = .ok (.iload_n 2, 1) := by decide +kernel
theorem dX9_ofReader_20 : decode cX9_ofReader 20 = .ok (.tableswitch 115 0 5 #[40, 52, 64, 76, 88, 100], 40) := by decide +kernel
theorem dX9_ofReader_60 : decode cX9_ofReader 60 = .ok (.aload_n 0, 1) := by decide +kernel
theorem dX9_ofReader_61 : decode cX9_ofReader 61 = .ok (.getfield 40, 3) := by decide +kernel
theorem dX9_ofReader_64 : decode cX9_ofReader 64 = .ok (.getfield 155, 3) := by decide +kernel
theorem dX9_ofReader_67 : decode cX9_ofReader 67 = .ok (.iload_n 1, 1) := by decide +kernel
theorem dX9_ofReader_68 : decode cX9_ofReader 68 = .ok (.invokevirtual 104, 3) := by decide +kernel
theorem dX9_ofReader_71 : decode cX9_ofReader 71 = .ok (.ireturn, 1) := by decide +kernel
theorem dX9_ofReader_72 : decode cX9_ofReader 72 = .ok (.aload_n 0, 1) := by decide +kernel
theorem dX9_ofReader_73 : decode cX9_ofReader 73 = .ok (.getfield 40, 3) := by decide +kernel
theorem dX9_ofReader_76 : decode cX9_ofReader 76 = .ok (.getfield 158, 3) := by decide +kernel
theorem dX9_ofReader_79 : decode cX9_ofReader 79 = .ok (.iload_n 1, 1) := by decide +kernel
theorem dX9_ofReader_80 : decode cX9_ofReader 80 = .ok (.invokevirtual 104, 3) := by decide +kernel
theorem dX9_ofReader_83 : decode cX9_ofReader 83 = .ok (.ireturn, 1) := by decide +kernel
theorem dX9_ofReader_84 : decode cX9_ofReader 84 = .ok (.aload_n 0, 1) := by decide +kernel
theorem dX9_ofReader_85 : decode cX9_ofReader 85 = .ok (.getfield 40, 3) := by decide +kernel
theorem dX9_ofReader_88 : decode cX9_ofReader 88 = .ok (.getfield 260, 3) := by decide +kernel
theorem dX9_ofReader_91 : decode cX9_ofReader 91 = .ok (.iload_n 1, 1) := by decide +kernel
theorem dX9_ofReader_92 : decode cX9_ofReader 92 = .ok (.invokevirtual 104, 3) := by decide +kernel
theorem dX9_ofReader_95 : decode cX9_ofReader 95 = .ok (.ireturn, 1) := by decide +kernel
theorem dX9_ofReader_96 : decode cX9_ofReader 96 = .ok (.aload_n 0, 1) := by decide +kernel
theorem dX9_ofReader_97 : decode cX9_ofReader 97 = .ok (.getfield 40, 3) := by decide +kernel
theorem dX9_ofReader_100 : decode cX9_ofReader 100 = .ok (.getfield 174, 3) := by decide +kernel
theorem dX9_ofReader_103 : decode cX9_ofReader 103 = .ok (.iload_n 1, 1) := by decide +kernel
theorem dX9_ofReader_104 : decode cX9_ofReader 104 = .ok (.invokevirtual 104, 3) := by decide +kernel
theorem dX9_ofReader_107 : decode cX9_ofReader 107 = .ok (.ireturn, 1) := by decide +kernel
theorem dX9_ofReader_108 : decode cX9_ofReader 108 = .ok (.aload_n 0, 1) := by decide +kernel
theorem dX9_ofReader_109 : decode cX9_ofReader 109 = .ok (.getfield 40, 3) := by decide +kernel
theorem dX9_ofReader_112 : decode cX9_ofReader 112 = .ok (.getfield 263, 3) := by decide +kernel
theorem dX9_ofReader_115 : decode cX9_ofReader 115 = .ok (.iload_n 1, 1) := by decide +kernel
theorem dX9_ofReader_116 : decode cX9_ofReader 116 = .ok (.invokevirtual 104, 3) := by decide +kernel
theorem dX9_ofReader_119 : decode cX9_ofReader 119 = .ok (.ireturn, 1) := by decide +kernel
theorem dX9_ofReader_120 : decode cX9_ofReader 120 = .ok (.aload_n 0, 1) := by decide +kernel
theorem dX9_ofReader_121 : decode cX9_ofReader 121 = .ok (.getfield 40, 3) := by decide +kernel
theorem dX9_ofReader_124 : decode cX9_ofReader 124 = .ok (.getfield 266, 3) := by decide +kernel
theorem dX9_ofReader_127 : decode cX9_ofReader 127 = .ok (.iload_n 1, 1) := by decide +kernel
theorem dX9_ofReader_128 : decode cX9_ofReader 128 = .ok (.invokevirtual 104, 3) := by decide +kernel
theorem dX9_ofReader_131 : decode cX9_ofReader 131 = .ok (.invokestatic 269, 3) := by decide +kernel
theorem dX9_ofReader_134 : decode cX9_ofReader 134 = .ok (.ireturn, 1) := by decide +kernel
theorem dX9_ofReader_135 : decode cX9_ofReader 135 = .ok (.new 81, 3) := by decide +kernel
theorem dX9_ofReader_138 : decode cX9_ofReader 138 = .ok (.dup, 1) := by decide +kernel
theorem dX9_ofReader_139 : decode cX9_ofReader 139 = .ok (.invokespecial 83, 3) := by decide +kernel
theorem dX9_ofReader_142 : decode cX9_ofReader 142 = .ok (.athrow, 1) := by decide +kernel
set_option maxRecDepth 20000 in
theorem ggX9_wanted_X9_wantedBy : GoodIn wsX9_wanted wsX9_wantedBy := goodIn_r _ [7, 1, 8, 9, 10, 11, 12, 13, 14, 15, 16, 17, 18, 19, 20, 21, 22, 23, 24, 25, 26, 6, 27, 28, 29, 30, 31, 32, 33, 34, 35, 36, 37, 38, 39, 40, 41, 42, 43, 44, 45, 46, 47, 48, 49, 50, 51, 52, 53, 54, 55, 56, 57, 58, 59, 60, 61, 62, 63, 64, 65, 66, 67, 68, 69, 70, 71, 72, 73, 74, 75, 76, 77, 78, 79, 80, 81, 82, 83, 84, 85, 86, 87, 88, 89, 90, 98, 99, 100, 101, 102, 103, 104, 91, 92, 93, 94, 95, 96, 97, 105, 106, 107, 108, 109, 110, 111, 112, 113, 114, 115, 116, 117, 118, 119, 120, 121, 122, 123, 124, 125, 126, 127, 128, 129, 130] (by decide +kernel) (by decide +kernel)
set_option maxRecDepth 20000 in
theorem gX9_wanted_X9_wantedBy : GoodIn wsX9_wanted (wsV RX9 242 RX9 yX9_wantedBy wsX9_wantedBy) := goodIn_app (goodIn_of _ (by decide +kernel)) ggX9_wanted_X9_wantedBy
theorem dX9_wanted_0 : decode cX9_wanted 0 = .ok (.iconst 0, 1) := by decide +kernel
theorem dX9_wanted_1 : decode cX9_wanted 1 = .ok (.istore_n 1, 1) := by decide +kernel
theorem dX9_wanted_2 : decode cX9_wanted 2 = .ok (.iconst 0, 1) := by decide +kernel
theorem dX9_wanted_3 : decode cX9_wanted 3 = .ok (.istore_n 2, 1) := by decide +kernel
theorem dX9_wanted_4 : decode cX9_wanted 4 = .ok (.iload_n 2, 1) := by decide +kernel
theorem dX9_wanted_5 : decode cX9_wanted 5 = .ok (.aload_n 0, 1) := by decide +kernel
theorem dX9_wanted_6 : decode cX9_wanted 6 = .ok (.getfield 33, 3) := by decide +kernel
theorem dX9_wanted_9 : decode cX9_wanted 9 = .ok (.getfield 84, 3) := by decide +kernel
theorem dX9_wanted_12 : decode cX9_wanted 12 = .ok (.if_icmp .ge 31, 3) := by decide +kernel
theorem dX9_wanted_15 : decode cX9_wanted 15 = .ok (.iconst 0, 1) := by decide +kernel
theorem dX9_wanted_16 : decode cX9_wanted 16 = .ok (.istore_n 3, 1) := by decide +kernel
theorem dX9_wanted_17 : decode cX9_wanted 17 = .ok (.iload_n 3, 1) := by decide +kernel
theorem dX9_wanted_18 : decode cX9_wanted 18 = .ok (.iconst 4, 1) := by decide +kernel
theorem dX9_wanted_19 : decode cX9_wanted 19 = .ok (.if_icmp .ge 18, 3) := by decide +kernel
theorem dX9_wanted_22 : decode cX9_wanted 22 = .ok (.iload_n 1, 1) := by decide +kernel
theorem dX9_wanted_23 : decode cX9_wanted 23 = .ok (.aload_n 0, 1) := by decide +kernel
theorem dX9_wanted_24 : decode cX9_wanted 24 = .ok (.iload_n 2, 1) := by decide +kernel
theorem dX9_wanted_25 : decode cX9_wanted 25 = .ok (.iload_n 3, 1) := by decide +kernel
theorem dX9_wanted_26 : decode cX9_wanted 26 = .ok (.invokevirtual 242, 3) := by decide +kernel
theorem dX9_wanted_29 : decode cX9_wanted 29 = .ok (.iadd, 1) := by decide +kernel
theorem dX9_wanted_30 : decode cX9_wanted 30 = .ok (.istore_n 1, 1) := by decide +kernel
theorem dX9_wanted_31 : decode cX9_wanted 31 = .ok (.iinc 3 1, 3) := by decide +kernel
theorem dX9_wanted_34 : decode cX9_wanted 34 = .ok (.goto (-17), 3) := by decide +kernel
theorem dX9_wanted_37 : decode cX9_wanted 37 = .ok (.iinc 2 1, 3) := by decide +kernel
theorem dX9_wanted_40 : decode cX9_wanted 40 = .ok (.goto (-36), 3) := by decide +kernel
theorem dX9_wanted_43 : decode cX9_wanted 43 = .ok (.iload_n 1, 1) := by decide +kernel
theorem dX9_wanted_44 : decode cX9_wanted 44 = .ok (.ireturn, 1) := by decide +kernel
theorem dX9_isQuestion_0 : decode cX9_isQuestion 0 = .ok (.iload_n 0, 1) := by decide +kernel
theorem dX9_isQuestion_1 : decode cX9_isQuestion 1 = .ok (.ifCond .lt 12, 3) := by decide +kernel
theorem dX9_isQuestion_4 : decode cX9_isQuestion 4 = .ok (.iload_n 0, 1) := by decide +kernel
theorem dX9_isQuestion_5 : decode cX9_isQuestion 5 = .ok (.iconst 4, 1) := by decide +kernel
theorem dX9_isQuestion_6 : decode cX9_isQuestion 6 = .ok (.if_icmp .ge 7, 3) := by decide +kernel
theorem dX9_isQuestion_9 : decode cX9_isQuestion 9 = .ok (.iconst 1, 1) := by decide +kernel
theorem dX9_isQuestion_10 : decode cX9_isQuestion 10 = .ok (.goto 4, 3) := by decide +kernel
theorem dX9_isQuestion_13 : decode cX9_isQuestion 13 = .ok (.iconst 0, 1) := by decide +kernel
theorem dX9_isQuestion_14 : decode cX9_isQuestion 14 = .ok (.ireturn, 1) := by decide +kernel
theorem dX9_arePoints_0 : decode cX9_arePoints 0 = .ok (.iload_n 0, 1) := by decide +kernel
theorem dX9_arePoints_1 : decode cX9_arePoints 1 = .ok (.ifCond .lt 14, 3) := by decide +kernel
theorem dX9_arePoints_4 : decode cX9_arePoints 4 = .ok (.iload_n 0, 1) := by decide +kernel
theorem dX9_arePoints_5 : decode cX9_arePoints 5 = .ok (.sipush 255, 3) := by decide +kernel
theorem dX9_arePoints_8 : decode cX9_arePoints 8 = .ok (.if_icmp .gt 7, 3) := by decide +kernel
theorem dX9_arePoints_11 : decode cX9_arePoints 11 = .ok (.iconst 1, 1) := by decide +kernel
theorem dX9_arePoints_12 : decode cX9_arePoints 12 = .ok (.goto 4, 3) := by decide +kernel
theorem dX9_arePoints_15 : decode cX9_arePoints 15 = .ok (.iconst 0, 1) := by decide +kernel
theorem dX9_arePoints_16 : decode cX9_arePoints 16 = .ok (.ireturn, 1) := by decide +kernel
theorem dX9_answerOf_0 : decode cX9_answerOf 0 = .ok (.iload_n 0, 1) := by decide +kernel
theorem dX9_answerOf_1 : decode cX9_answerOf 1 = .ok (.iconst 4, 1) := by decide +kernel
theorem dX9_answerOf_2 : decode cX9_answerOf 2 = .ok (.imul, 1) := by decide +kernel
theorem dX9_answerOf_3 : decode cX9_answerOf 3 = .ok (.iload_n 1, 1) := by decide +kernel
theorem dX9_answerOf_4 : decode cX9_answerOf 4 = .ok (.iadd, 1) := by decide +kernel
theorem dX9_answerOf_5 : decode cX9_answerOf 5 = .ok (.ireturn, 1) := by decide +kernel
theorem dX9_areApart_0 : decode cX9_areApart 0 = .ok (.iload_n 0, 1) := by decide +kernel
theorem dX9_areApart_1 : decode cX9_areApart 1 = .ok (.iload_n 1, 1) := by decide +kernel
theorem dX9_areApart_2 : decode cX9_areApart 2 = .ok (.isub, 1) := by decide +kernel
theorem dX9_areApart_3 : decode cX9_areApart 3 = .ok (.iload_n 2, 1) := by decide +kernel
theorem dX9_areApart_4 : decode cX9_areApart 4 = .ok (.if_icmp .gt 10, 3) := by decide +kernel
theorem dX9_areApart_7 : decode cX9_areApart 7 = .ok (.iload_n 1, 1) := by decide +kernel
theorem dX9_areApart_8 : decode cX9_areApart 8 = .ok (.iload_n 0, 1) := by decide +kernel
theorem dX9_areApart_9 : decode cX9_areApart 9 = .ok (.isub, 1) := by decide +kernel
theorem dX9_areApart_10 : decode cX9_areApart 10 = .ok (.iload_n 2, 1) := by decide +kernel
theorem dX9_areApart_11 : decode cX9_areApart 11 = .ok (.if_icmp .le 7, 3) := by decide +kernel
theorem dX9_areApart_14 : decode cX9_areApart 14 = .ok (.iconst 1, 1) := by decide +kernel
theorem dX9_areApart_15 : decode cX9_areApart 15 = .ok (.goto 4, 3) := by decide +kernel
theorem dX9_areApart_18 : decode cX9_areApart 18 = .ok (.iconst 0, 1) := by decide +kernel
theorem dX9_areApart_19 : decode cX9_areApart 19 = .ok (.ireturn, 1) := by decide +kernel
set_option maxRecDepth 20000 in
theorem ggX9_giveWhatIsNext_X9_seedDue : GoodIn wsX9_giveWhatIsNext wsX9_seedDue := goodIn_r _ [8, 1, 9, 2, 10, 3, 11, 12, 13, 14, 15, 16, 17, 18, 19, 20, 21, 22, 23, 24, 144, 145, 146, 147, 148, 149, 150, 151, 152, 153, 154, 155, 156, 157, 158, 162, 163, 164, 165, 166, 167, 168, 169, 170, 171, 172, 173, 174, 159, 160, 161, 175] (by decide +kernel) (by decide +kernel)
set_option maxRecDepth 20000 in
theorem gX9_giveWhatIsNext_X9_seedDue : GoodIn wsX9_giveWhatIsNext (wsV RX9 274 RX9 yX9_seedDue wsX9_seedDue) := goodIn_app (goodIn_of _ (by decide +kernel)) ggX9_giveWhatIsNext_X9_seedDue
set_option maxRecDepth 20000 in
theorem ggX9_giveWhatIsNext_X5_get : GoodIn wsX9_giveWhatIsNext wsX5_get := goodIn_r _ [16, 17, 175] (by decide +kernel) (by decide +kernel)
set_option maxRecDepth 20000 in
theorem gX9_giveWhatIsNext_X5_get : GoodIn wsX9_giveWhatIsNext (wsV RX9 104 RX5 yX5_get wsX5_get) := goodIn_app (goodIn_of _ (by decide +kernel)) ggX9_giveWhatIsNext_X5_get
set_option maxRecDepth 20000 in
theorem ggX9_giveWhatIsNext_X4_handSeed : GoodIn wsX9_giveWhatIsNext wsX4_handSeed := goodIn_r _ [28, 29, 30, 31, 32, 33, 34, 15, 35, 17, 24, 13, 14, 16, 162, 163, 164, 165, 166, 167, 168, 169, 170, 171, 172, 173, 174, 175] (by decide +kernel) (by decide +kernel)
set_option maxRecDepth 20000 in
theorem gX9_giveWhatIsNext_X4_handSeed : GoodIn wsX9_giveWhatIsNext (wsV RX9 280 RX4 yX4_handSeed wsX4_handSeed) := goodIn_app (goodIn_of _ (by decide +kernel)) ggX9_giveWhatIsNext_X4_handSeed
set_option maxRecDepth 20000 in
theorem ggX9_giveWhatIsNext_X9_giveAnswer : GoodIn wsX9_giveWhatIsNext wsX9_giveAnswer := goodIn_r _ [39, 40, 41, 42, 43, 44, 45, 1, 46, 47, 48, 15, 49, 17, 50, 51, 52, 7, 53, 54, 55, 56, 57, 58, 59, 60, 61, 62, 63, 64, 13, 14, 16, 12, 18, 19, 20, 21, 22, 23, 24, 65, 66, 67, 68, 69, 70, 71, 72, 73, 74, 75, 76, 77, 78, 79, 80, 81, 82, 83, 84, 85, 86, 87, 88, 89, 90, 91, 92, 93, 94, 95, 96, 97, 98, 99, 100, 101, 102, 103, 104, 105, 106, 107, 108, 109, 110, 111, 112, 113, 114, 115, 116, 117, 118, 119, 120, 121, 122, 123, 124, 125, 126, 127, 128, 129, 130, 131, 132, 133, 29, 134, 135, 136, 137, 138, 139, 32, 33, 34, 35, 140, 141, 142, 143, 144, 145, 146, 147, 148, 149, 150, 151, 152, 153, 154, 155, 156, 157, 158, 176, 177, 178, 179, 180, 181, 182, 175, 162, 163, 164, 165, 166, 167, 168, 169, 170, 171, 172, 173, 174, 183, 184, 185, 186, 187, 188, 189, 190, 191, 192, 193, 194, 195, 196, 197, 198, 199, 200, 201, 202, 203, 204, 205, 206, 207, 208, 209] (by decide +kernel) (by decide +kernel)
set_option maxRecDepth 20000 in
theorem gX9_giveWhatIsNext_X9_giveAnswer : GoodIn wsX9_giveWhatIsNext (wsV RX9 284 RX9 yX9_giveAnswer wsX9_giveAnswer) := goodIn_app (goodIn_of _ (by decide +kernel)) ggX9_giveWhatIsNext_X9_giveAnswer
theorem dX9_giveWhatIsNext_0 : decode cX9_giveWhatIsNext 0 = .ok (.aload_n 0, 1) := by decide +kernel
theorem dX9_giveWhatIsNext_1 : decode cX9_giveWhatIsNext 1 = .ok (.iload_n 1, 1) := by decide +kernel
theorem dX9_giveWhatIsNext_2 : decode cX9_giveWhatIsNext 2 = .ok (.invokevirtual 274, 3) := by decide +kernel
theorem dX9_giveWhatIsNext_5 : decode cX9_giveWhatIsNext 5 = .ok (.istore_n 2, 1) := by decide +kernel
theorem dX9_giveWhatIsNext_6 : decode cX9_giveWhatIsNext 6 = .ok (.iload_n 2, 1) := by decide +kernel
theorem dX9_giveWhatIsNext_7 : decode cX9_giveWhatIsNext 7 = .ok (.iconst (-1), 1) := by decide +kernel
theorem dX9_giveWhatIsNext_8 : decode cX9_giveWhatIsNext 8 = .ok (.if_icmp .eq 28, 3) := by decide +kernel
theorem dX9_giveWhatIsNext_11 : decode cX9_giveWhatIsNext 11 = .ok (.aload_n 0, 1) := by decide +kernel
theorem dX9_giveWhatIsNext_12 : decode cX9_giveWhatIsNext 12 = .ok (.getfield 40, 3) := by decide +kernel
theorem dX9_giveWhatIsNext_15 : decode cX9_giveWhatIsNext 15 = .ok (.iload_n 1, 1) := by decide +kernel
theorem dX9_giveWhatIsNext_16 : decode cX9_giveWhatIsNext 16 = .ok (.iload_n 2, 1) := by decide +kernel
theorem dX9_giveWhatIsNext_17 : decode cX9_giveWhatIsNext 17 = .ok (.sipush 1000, 3) := by decide +kernel
theorem dX9_giveWhatIsNext_20 : decode cX9_giveWhatIsNext 20 = .ok (.aload_n 0, 1) := by decide +kernel
theorem dX9_giveWhatIsNext_21 : decode cX9_giveWhatIsNext 21 = .ok (.getfield 47, 3) := by decide +kernel
theorem dX9_giveWhatIsNext_24 : decode cX9_giveWhatIsNext 24 = .ok (.getfield 277, 3) := by decide +kernel
theorem dX9_giveWhatIsNext_27 : decode cX9_giveWhatIsNext 27 = .ok (.iload_n 2, 1) := by decide +kernel
theorem dX9_giveWhatIsNext_28 : decode cX9_giveWhatIsNext 28 = .ok (.invokevirtual 104, 3) := by decide +kernel
theorem dX9_giveWhatIsNext_31 : decode cX9_giveWhatIsNext 31 = .ok (.iadd, 1) := by decide +kernel
theorem dX9_giveWhatIsNext_32 : decode cX9_giveWhatIsNext 32 = .ok (.invokevirtual 280, 3) := by decide +kernel
theorem dX9_giveWhatIsNext_35 : decode cX9_giveWhatIsNext 35 = .ok (.return_, 1) := by decide +kernel
theorem dX9_giveWhatIsNext_36 : decode cX9_giveWhatIsNext 36 = .ok (.aload_n 0, 1) := by decide +kernel
theorem dX9_giveWhatIsNext_37 : decode cX9_giveWhatIsNext 37 = .ok (.iload_n 1, 1) := by decide +kernel
theorem dX9_giveWhatIsNext_38 : decode cX9_giveWhatIsNext 38 = .ok (.iconst 1, 1) := by decide +kernel
theorem dX9_giveWhatIsNext_39 : decode cX9_giveWhatIsNext 39 = .ok (.invokevirtual 284, 3) := by decide +kernel
theorem dX9_giveWhatIsNext_42 : decode cX9_giveWhatIsNext 42 = .ok (.ifCond .ne 10, 3) := by decide +kernel
theorem dX9_giveWhatIsNext_45 : decode cX9_giveWhatIsNext 45 = .ok (.aload_n 0, 1) := by decide +kernel
theorem dX9_giveWhatIsNext_46 : decode cX9_giveWhatIsNext 46 = .ok (.iload_n 1, 1) := by decide +kernel
theorem dX9_giveWhatIsNext_47 : decode cX9_giveWhatIsNext 47 = .ok (.iconst 0, 1) := by decide +kernel
theorem dX9_giveWhatIsNext_48 : decode cX9_giveWhatIsNext 48 = .ok (.invokevirtual 284, 3) := by decide +kernel
theorem dX9_giveWhatIsNext_51 : decode cX9_giveWhatIsNext 51 = .ok (.pop, 1) := by decide +kernel
theorem dX9_giveWhatIsNext_52 : decode cX9_giveWhatIsNext 52 = .ok (.return_, 1) := by decide +kernel
set_option maxRecDepth 20000 in
theorem ggX9_seedDue_X5_get : GoodIn wsX9_seedDue wsX5_get := goodIn_r _ [11, 12, 51] (by decide +kernel) (by decide +kernel)
set_option maxRecDepth 20000 in
theorem gX9_seedDue_X5_get : GoodIn wsX9_seedDue (wsV RX9 104 RX5 yX5_get wsX5_get) := goodIn_app (goodIn_of _ (by decide +kernel)) ggX9_seedDue_X5_get
set_option maxRecDepth 20000 in
theorem ggX9_seedDue_X4_isFor : GoodIn wsX9_seedDue wsX4_isFor := goodIn_r _ [17, 18, 19, 8, 9, 10, 11, 12, 35, 36, 37, 38, 39, 40, 41, 42, 43, 44, 45, 46, 47, 51] (by decide +kernel) (by decide +kernel)
set_option maxRecDepth 20000 in
theorem gX9_seedDue_X4_isFor : GoodIn wsX9_seedDue (wsV RX9 288 RX4 yX4_isFor wsX4_isFor) := goodIn_app (goodIn_of _ (by decide +kernel)) ggX9_seedDue_X4_isFor
theorem dX9_seedDue_0 : decode cX9_seedDue 0 = .ok (.aload_n 0, 1) := by decide +kernel
theorem dX9_seedDue_1 : decode cX9_seedDue 1 = .ok (.getfield 40, 3) := by decide +kernel
theorem dX9_seedDue_4 : decode cX9_seedDue 4 = .ok (.getfield 263, 3) := by decide +kernel
theorem dX9_seedDue_7 : decode cX9_seedDue 7 = .ok (.iload_n 1, 1) := by decide +kernel
theorem dX9_seedDue_8 : decode cX9_seedDue 8 = .ok (.invokevirtual 104, 3) := by decide +kernel
theorem dX9_seedDue_11 : decode cX9_seedDue 11 = .ok (.iconst 3, 1) := by decide +kernel
theorem dX9_seedDue_12 : decode cX9_seedDue 12 = .ok (.if_icmp .ge 5, 3) := by decide +kernel
theorem dX9_seedDue_15 : decode cX9_seedDue 15 = .ok (.iconst (-1), 1) := by decide +kernel
theorem dX9_seedDue_16 : decode cX9_seedDue 16 = .ok (.ireturn, 1) := by decide +kernel
theorem dX9_seedDue_17 : decode cX9_seedDue 17 = .ok (.iconst 0, 1) := by decide +kernel
theorem dX9_seedDue_18 : decode cX9_seedDue 18 = .ok (.istore_n 2, 1) := by decide +kernel
theorem dX9_seedDue_19 : decode cX9_seedDue 19 = .ok (.iload_n 2, 1) := by decide +kernel
theorem dX9_seedDue_20 : decode cX9_seedDue 20 = .ok (.aload_n 0, 1) := by decide +kernel
theorem dX9_seedDue_21 : decode cX9_seedDue 21 = .ok (.getfield 47, 3) := by decide +kernel
theorem dX9_seedDue_24 : decode cX9_seedDue 24 = .ok (.getfield 147, 3) := by decide +kernel
theorem dX9_seedDue_27 : decode cX9_seedDue 27 = .ok (.if_icmp .ge 53, 3) := by decide +kernel
theorem dX9_seedDue_30 : decode cX9_seedDue 30 = .ok (.aload_n 0, 1) := by decide +kernel
theorem dX9_seedDue_31 : decode cX9_seedDue 31 = .ok (.getfield 40, 3) := by decide +kernel
theorem dX9_seedDue_34 : decode cX9_seedDue 34 = .ok (.iload_n 1, 1) := by decide +kernel
theorem dX9_seedDue_35 : decode cX9_seedDue 35 = .ok (.aload_n 0, 1) := by decide +kernel
theorem dX9_seedDue_36 : decode cX9_seedDue 36 = .ok (.getfield 47, 3) := by decide +kernel
theorem dX9_seedDue_39 : decode cX9_seedDue 39 = .ok (.getfield 277, 3) := by decide +kernel
theorem dX9_seedDue_42 : decode cX9_seedDue 42 = .ok (.iload_n 2, 1) := by decide +kernel
theorem dX9_seedDue_43 : decode cX9_seedDue 43 = .ok (.invokevirtual 104, 3) := by decide +kernel
theorem dX9_seedDue_46 : decode cX9_seedDue 46 = .ok (.invokevirtual 288, 3) := by decide +kernel
theorem dX9_seedDue_49 : decode cX9_seedDue 49 = .ok (.istore_n 3, 1) := by decide +kernel
theorem dX9_seedDue_50 : decode cX9_seedDue 50 = .ok (.iload_n 3, 1) := by decide +kernel
theorem dX9_seedDue_51 : decode cX9_seedDue 51 = .ok (.ifCond .eq 23, 3) := by decide +kernel
theorem dX9_seedDue_54 : decode cX9_seedDue 54 = .ok (.aload_n 0, 1) := by decide +kernel
theorem dX9_seedDue_55 : decode cX9_seedDue 55 = .ok (.getfield 40, 3) := by decide +kernel
theorem dX9_seedDue_58 : decode cX9_seedDue 58 = .ok (.getfield 266, 3) := by decide +kernel
theorem dX9_seedDue_61 : decode cX9_seedDue 61 = .ok (.iload_n 1, 1) := by decide +kernel
theorem dX9_seedDue_62 : decode cX9_seedDue 62 = .ok (.invokevirtual 104, 3) := by decide +kernel
theorem dX9_seedDue_65 : decode cX9_seedDue 65 = .ok (.iload_n 2, 1) := by decide +kernel
theorem dX9_seedDue_66 : decode cX9_seedDue 66 = .ok (.ishr, 1) := by decide +kernel
theorem dX9_seedDue_67 : decode cX9_seedDue 67 = .ok (.iconst 1, 1) := by decide +kernel
theorem dX9_seedDue_68 : decode cX9_seedDue 68 = .ok (.iand, 1) := by decide +kernel
theorem dX9_seedDue_69 : decode cX9_seedDue 69 = .ok (.ifCond .ne 5, 3) := by decide +kernel
theorem dX9_seedDue_72 : decode cX9_seedDue 72 = .ok (.iload_n 2, 1) := by decide +kernel
theorem dX9_seedDue_73 : decode cX9_seedDue 73 = .ok (.ireturn, 1) := by decide +kernel
theorem dX9_seedDue_74 : decode cX9_seedDue 74 = .ok (.iinc 2 1, 3) := by decide +kernel
theorem dX9_seedDue_77 : decode cX9_seedDue 77 = .ok (.goto (-58), 3) := by decide +kernel
theorem dX9_seedDue_80 : decode cX9_seedDue 80 = .ok (.iconst (-1), 1) := by decide +kernel
theorem dX9_seedDue_81 : decode cX9_seedDue 81 = .ok (.ireturn, 1) := by decide +kernel
set_option maxRecDepth 20000 in
theorem ggX9_giveAnswer_X5_is : GoodIn wsX9_giveAnswer wsX5_is := goodIn_r _ [12, 13, 147] (by decide +kernel) (by decide +kernel)
set_option maxRecDepth 20000 in
theorem gX9_giveAnswer_X5_is : GoodIn wsX9_giveAnswer (wsV RX9 135 RX5 yX5_is wsX5_is) := goodIn_app (goodIn_of _ (by decide +kernel)) ggX9_giveAnswer_X5_is
set_option maxRecDepth 20000 in
theorem ggX9_giveAnswer_X9_canBeGiven : GoodIn wsX9_giveAnswer wsX9_canBeGiven := goodIn_r _ [18, 1, 19, 7, 20, 21, 22, 4, 5, 23, 24, 25, 26, 27, 28, 29, 30, 31, 11, 32, 13, 33, 34, 35, 36, 37, 38, 39, 40, 41, 42, 43, 44, 45, 46, 47, 48, 49, 17, 50, 51, 52, 53, 54, 55, 56, 57, 58, 59, 60, 61, 62, 63, 64, 6, 65, 66, 67, 68, 69, 70, 71, 72, 73, 74, 75, 76, 77, 78, 79, 80, 81, 82, 8, 9, 10, 12, 83, 84, 85, 86, 87, 88, 89, 90, 91, 92, 93, 94, 95, 96, 97, 98, 99, 100, 101, 102, 103, 104, 105, 106, 107, 108, 109, 110, 111, 125, 126, 127, 128, 129, 130, 131, 132, 133, 134, 135, 136, 137, 138, 139, 140, 141, 142, 143, 144, 145, 146, 148, 149, 150, 151, 152, 153, 154, 155, 156, 157, 158, 159, 160, 147, 161, 162, 163, 164, 165, 166, 167, 168, 169, 170, 171, 172, 173, 174, 175, 176, 177, 178, 179, 180, 181, 182, 183, 184, 185, 186, 187] (by decide +kernel) (by decide +kernel)
set_option maxRecDepth 20000 in
theorem gX9_giveAnswer_X9_canBeGiven : GoodIn wsX9_giveAnswer (wsV RX9 294 RX9 yX9_canBeGiven wsX9_canBeGiven) := goodIn_app (goodIn_of _ (by decide +kernel)) ggX9_giveAnswer_X9_canBeGiven
set_option maxRecDepth 20000 in
theorem ggX9_giveAnswer_X8_lackingAsPlain : GoodIn wsX9_giveAnswer wsX8_lackingAsPlain := goodIn_r _ [90, 78, 81, 79, 80, 91, 92, 93, 74, 94, 95, 17, 96, 181, 182, 183, 184, 185, 186, 187] (by decide +kernel) (by decide +kernel)
set_option maxRecDepth 20000 in
theorem gX9_giveAnswer_X8_lackingAsPlain : GoodIn wsX9_giveAnswer (wsV RX9 297 RX8 yX8_lackingAsPlain wsX8_lackingAsPlain) := goodIn_app (goodIn_of _ (by decide +kernel)) ggX9_giveAnswer_X8_lackingAsPlain
set_option maxRecDepth 20000 in
theorem ggX9_giveAnswer_X9_codeOf : GoodIn wsX9_giveAnswer wsX9_codeOf := goodIn_r _ [104] (by decide +kernel) (by decide +kernel)
set_option maxRecDepth 20000 in
theorem gX9_giveAnswer_X9_codeOf : GoodIn wsX9_giveAnswer (va_wsS RX9 301 yX9_codeOf wsX9_codeOf) := goodIn_app (goodIn_of _ (by decide +kernel)) ggX9_giveAnswer_X9_codeOf
set_option maxRecDepth 20000 in
theorem ggX9_giveAnswer_X4_handAnswer : GoodIn wsX9_giveAnswer wsX4_handAnswer := goodIn_r _ [115, 110, 116, 117, 118, 119, 11, 120, 13, 121, 122, 123, 124, 148, 149, 150, 151, 152, 153, 154, 155, 156, 157, 158, 159, 160, 147] (by decide +kernel) (by decide +kernel)
set_option maxRecDepth 20000 in
theorem gX9_giveAnswer_X4_handAnswer : GoodIn wsX9_giveAnswer (wsV RX9 304 RX4 yX4_handAnswer wsX4_handAnswer) := goodIn_app (goodIn_of _ (by decide +kernel)) ggX9_giveAnswer_X4_handAnswer
theorem dX9_giveAnswer_0 : decode cX9_giveAnswer 0 = .ok (.iconst 0, 1) := by decide +kernel
theorem dX9_giveAnswer_1 : decode cX9_giveAnswer 1 = .ok (.istore_n 3, 1) := by decide +kernel
theorem dX9_giveAnswer_2 : decode cX9_giveAnswer 2 = .ok (.iload_n 3, 1) := by decide +kernel
theorem dX9_giveAnswer_3 : decode cX9_giveAnswer 3 = .ok (.aload_n 0, 1) := by decide +kernel
theorem dX9_giveAnswer_4 : decode cX9_giveAnswer 4 = .ok (.getfield 33, 3) := by decide +kernel
theorem dX9_giveAnswer_7 : decode cX9_giveAnswer 7 = .ok (.getfield 84, 3) := by decide +kernel
theorem dX9_giveAnswer_10 : decode cX9_giveAnswer 10 = .ok (.if_icmp .ge 104, 3) := by decide +kernel
theorem dX9_giveAnswer_13 : decode cX9_giveAnswer 13 = .ok (.aload_n 0, 1) := by decide +kernel
theorem dX9_giveAnswer_14 : decode cX9_giveAnswer 14 = .ok (.getfield 33, 3) := by decide +kernel
theorem dX9_giveAnswer_17 : decode cX9_giveAnswer 17 = .ok (.getfield 291, 3) := by decide +kernel
theorem dX9_giveAnswer_20 : decode cX9_giveAnswer 20 = .ok (.iload_n 3, 1) := by decide +kernel
theorem dX9_giveAnswer_21 : decode cX9_giveAnswer 21 = .ok (.invokevirtual 135, 3) := by decide +kernel
theorem dX9_giveAnswer_24 : decode cX9_giveAnswer 24 = .ok (.iload_n 2, 1) := by decide +kernel
theorem dX9_giveAnswer_25 : decode cX9_giveAnswer 25 = .ok (.if_icmp .eq 6, 3) := by decide +kernel
theorem dX9_giveAnswer_28 : decode cX9_giveAnswer 28 = .ok (.goto 80, 3) := by decide +kernel
theorem dX9_giveAnswer_31 : decode cX9_giveAnswer 31 = .ok (.iconst 0, 1) := by decide +kernel
theorem dX9_giveAnswer_32 : decode cX9_giveAnswer 32 = .ok (.istore 4, 2) := by decide +kernel
theorem dX9_giveAnswer_34 : decode cX9_giveAnswer 34 = .ok (.iload 4, 2) := by decide +kernel
theorem dX9_giveAnswer_36 : decode cX9_giveAnswer 36 = .ok (.iconst 4, 1) := by decide +kernel
theorem dX9_giveAnswer_37 : decode cX9_giveAnswer 37 = .ok (.if_icmp .ge 71, 3) := by decide +kernel
theorem dX9_giveAnswer_40 : decode cX9_giveAnswer 40 = .ok (.aload_n 0, 1) := by decide +kernel
theorem dX9_giveAnswer_41 : decode cX9_giveAnswer 41 = .ok (.iload_n 1, 1) := by decide +kernel
theorem dX9_giveAnswer_42 : decode cX9_giveAnswer 42 = .ok (.iload_n 3, 1) := by decide +kernel
theorem dX9_giveAnswer_43 : decode cX9_giveAnswer 43 = .ok (.iload 4, 2) := by decide +kernel
theorem dX9_giveAnswer_45 : decode cX9_giveAnswer 45 = .ok (.invokevirtual 294, 3) := by decide +kernel
theorem dX9_giveAnswer_48 : decode cX9_giveAnswer 48 = .ok (.ifCond .ne 6, 3) := by decide +kernel
theorem dX9_giveAnswer_51 : decode cX9_giveAnswer 51 = .ok (.goto 51, 3) := by decide +kernel
theorem dX9_giveAnswer_54 : decode cX9_giveAnswer 54 = .ok (.aload_n 0, 1) := by decide +kernel
theorem dX9_giveAnswer_55 : decode cX9_giveAnswer 55 = .ok (.getfield 61, 3) := by decide +kernel
theorem dX9_giveAnswer_58 : decode cX9_giveAnswer 58 = .ok (.aload_n 0, 1) := by decide +kernel
theorem dX9_giveAnswer_59 : decode cX9_giveAnswer 59 = .ok (.getfield 70, 3) := by decide +kernel
theorem dX9_giveAnswer_62 : decode cX9_giveAnswer 62 = .ok (.iload 4, 2) := by decide +kernel
theorem dX9_giveAnswer_64 : decode cX9_giveAnswer 64 = .ok (.invokevirtual 135, 3) := by decide +kernel
theorem dX9_giveAnswer_67 : decode cX9_giveAnswer 67 = .ok (.aload_n 0, 1) := by decide +kernel
theorem dX9_giveAnswer_68 : decode cX9_giveAnswer 68 = .ok (.getfield 77, 3) := by decide +kernel
theorem dX9_giveAnswer_71 : decode cX9_giveAnswer 71 = .ok (.invokevirtual 297, 3) := by decide +kernel
theorem dX9_giveAnswer_74 : decode cX9_giveAnswer 74 = .ok (.ifCond .ne 7, 3) := by decide +kernel
theorem dX9_giveAnswer_77 : decode cX9_giveAnswer 77 = .ok (.iconst 1, 1) := by decide +kernel
theorem dX9_giveAnswer_78 : decode cX9_giveAnswer 78 = .ok (.goto 4, 3) := by decide +kernel
theorem dX9_giveAnswer_81 : decode cX9_giveAnswer 81 = .ok (.iconst 0, 1) := by decide +kernel
theorem dX9_giveAnswer_82 : decode cX9_giveAnswer 82 = .ok (.istore 5, 2) := by decide +kernel
theorem dX9_giveAnswer_84 : decode cX9_giveAnswer 84 = .ok (.aload_n 0, 1) := by decide +kernel
theorem dX9_giveAnswer_85 : decode cX9_giveAnswer 85 = .ok (.getfield 40, 3) := by decide +kernel
theorem dX9_giveAnswer_88 : decode cX9_giveAnswer 88 = .ok (.iload_n 1, 1) := by decide +kernel
theorem dX9_giveAnswer_89 : decode cX9_giveAnswer 89 = .ok (.iload_n 3, 1) := by decide +kernel
theorem dX9_giveAnswer_90 : decode cX9_giveAnswer 90 = .ok (.iload 4, 2) := by decide +kernel
theorem dX9_giveAnswer_92 : decode cX9_giveAnswer 92 = .ok (.invokestatic 301, 3) := by decide +kernel
theorem dX9_giveAnswer_95 : decode cX9_giveAnswer 95 = .ok (.iload 5, 2) := by decide +kernel
theorem dX9_giveAnswer_97 : decode cX9_giveAnswer 97 = .ok (.invokevirtual 304, 3) := by decide +kernel
theorem dX9_giveAnswer_100 : decode cX9_giveAnswer 100 = .ok (.iconst 1, 1) := by decide +kernel
theorem dX9_giveAnswer_101 : decode cX9_giveAnswer 101 = .ok (.ireturn, 1) := by decide +kernel
theorem dX9_giveAnswer_102 : decode cX9_giveAnswer 102 = .ok (.iinc 4 1, 3) := by decide +kernel
theorem dX9_giveAnswer_105 : decode cX9_giveAnswer 105 = .ok (.goto (-71), 3) := by decide +kernel
theorem dX9_giveAnswer_108 : decode cX9_giveAnswer 108 = .ok (.iinc 3 1, 3) := by decide +kernel
theorem dX9_giveAnswer_111 : decode cX9_giveAnswer 111 = .ok (.goto (-109), 3) := by decide +kernel
theorem dX9_giveAnswer_114 : decode cX9_giveAnswer 114 = .ok (.iconst 0, 1) := by decide +kernel
theorem dX9_giveAnswer_115 : decode cX9_giveAnswer 115 = .ok (.ireturn, 1) := by decide +kernel
theorem dX9_codeOf_0 : decode cX9_codeOf 0 = .ok (.bipush 10, 2) := by decide +kernel
theorem dX9_codeOf_2 : decode cX9_codeOf 2 = .ok (.iload_n 0, 1) := by decide +kernel
theorem dX9_codeOf_3 : decode cX9_codeOf 3 = .ok (.imul, 1) := by decide +kernel
theorem dX9_codeOf_4 : decode cX9_codeOf 4 = .ok (.iload_n 1, 1) := by decide +kernel
theorem dX9_codeOf_5 : decode cX9_codeOf 5 = .ok (.iadd, 1) := by decide +kernel
theorem dX9_codeOf_6 : decode cX9_codeOf 6 = .ok (.ireturn, 1) := by decide +kernel
set_option maxRecDepth 20000 in
theorem ggX9_canBeGiven_X3_isLacking : GoodIn wsX9_canBeGiven wsX3_isLacking := goodIn_r _ [13, 14, 15, 16, 17, 18, 19, 20, 121, 122, 123, 124, 125, 126, 127, 141] (by decide +kernel) (by decide +kernel)
set_option maxRecDepth 20000 in
theorem gX9_canBeGiven_X3_isLacking : GoodIn wsX9_canBeGiven (wsV RX9 203 RX3 yX3_isLacking wsX3_isLacking) := goodIn_app (goodIn_of _ (by decide +kernel)) ggX9_canBeGiven_X3_isLacking
set_option maxRecDepth 20000 in
theorem ggX9_canBeGiven_X5_get : GoodIn wsX9_canBeGiven wsX5_get := goodIn_r _ [19, 20, 141] (by decide +kernel) (by decide +kernel)
set_option maxRecDepth 20000 in
theorem gX9_canBeGiven_X5_get : GoodIn wsX9_canBeGiven (wsV RX9 104 RX5 yX5_get wsX5_get) := goodIn_app (goodIn_of _ (by decide +kernel)) ggX9_canBeGiven_X5_get
set_option maxRecDepth 20000 in
theorem ggX9_canBeGiven_X4_isFor : GoodIn wsX9_canBeGiven wsX4_isFor := goodIn_r _ [26, 27, 28, 16, 17, 18, 19, 20, 128, 129, 130, 131, 132, 133, 134, 135, 136, 137, 138, 139, 140, 141] (by decide +kernel) (by decide +kernel)
set_option maxRecDepth 20000 in
theorem gX9_canBeGiven_X4_isFor : GoodIn wsX9_canBeGiven (wsV RX9 288 RX4 yX4_isFor wsX4_isFor) := goodIn_app (goodIn_of _ (by decide +kernel)) ggX9_canBeGiven_X4_isFor
set_option maxRecDepth 20000 in
theorem ggX9_canBeGiven_X6_holdsFor : GoodIn wsX9_canBeGiven wsX6_holdsFor := goodIn_r _ [33, 34, 35, 16, 17, 18, 19, 20, 142, 143, 144, 145, 146, 147, 148, 149, 141] (by decide +kernel) (by decide +kernel)
set_option maxRecDepth 20000 in
theorem gX9_canBeGiven_X6_holdsFor : GoodIn wsX9_canBeGiven (wsV RX9 148 RX6 yX6_holdsFor wsX6_holdsFor) := goodIn_app (goodIn_of _ (by decide +kernel)) ggX9_canBeGiven_X6_holdsFor
set_option maxRecDepth 20000 in
theorem ggX9_canBeGiven_X9_answerOf : GoodIn wsX9_canBeGiven wsX9_answerOf := goodIn_r _ [39] (by decide +kernel) (by decide +kernel)
set_option maxRecDepth 20000 in
theorem gX9_canBeGiven_X9_answerOf : GoodIn wsX9_canBeGiven (va_wsS RX9 225 yX9_answerOf wsX9_answerOf) := goodIn_app (goodIn_of _ (by decide +kernel)) ggX9_canBeGiven_X9_answerOf
set_option maxRecDepth 20000 in
theorem ggX9_canBeGiven_X9_hasReadingBy : GoodIn wsX9_canBeGiven wsX9_hasReadingBy := goodIn_r _ [43, 44, 45, 46, 47, 48, 49, 21, 16, 17, 18, 19, 20, 106, 107, 108, 109, 110, 111, 112, 113, 114, 115, 116, 117, 118, 119, 120, 150, 151, 152, 153, 154, 155, 156, 157, 158, 159, 160, 161, 141] (by decide +kernel) (by decide +kernel)
set_option maxRecDepth 20000 in
theorem gX9_canBeGiven_X9_hasReadingBy : GoodIn wsX9_canBeGiven (wsV RX9 312 RX9 yX9_hasReadingBy wsX9_hasReadingBy) := goodIn_app (goodIn_of _ (by decide +kernel)) ggX9_canBeGiven_X9_hasReadingBy
set_option maxRecDepth 20000 in
theorem ggX9_canBeGiven_X9_wantedBy : GoodIn wsX9_canBeGiven wsX9_wantedBy := goodIn_r _ [53, 1, 7, 8, 54, 55, 9, 10, 11, 12, 13, 14, 15, 16, 17, 18, 19, 20, 56, 57, 58, 38, 59, 44, 45, 46, 48, 3, 6, 47, 60, 49, 61, 62, 63, 64, 65, 66, 67, 68, 69, 70, 71, 72, 36, 37, 39, 21, 73, 74, 75, 76, 77, 78, 79, 80, 81, 82, 83, 84, 85, 86, 87, 88, 89, 90, 91, 92, 93, 94, 95, 106, 107, 108, 109, 110, 111, 112, 113, 114, 115, 116, 117, 118, 119, 120, 162, 163, 164, 165, 166, 167, 168, 121, 122, 123, 124, 125, 126, 127, 141, 150, 151, 152, 153, 154, 155, 156, 157, 158, 159, 160, 161, 128, 129, 130, 131, 132, 133, 134, 135, 136, 137, 138, 139, 140] (by decide +kernel) (by decide +kernel)
set_option maxRecDepth 20000 in
theorem gX9_canBeGiven_X9_wantedBy : GoodIn wsX9_canBeGiven (wsV RX9 242 RX9 yX9_wantedBy wsX9_wantedBy) := goodIn_app (goodIn_of _ (by decide +kernel)) ggX9_canBeGiven_X9_wantedBy
set_option maxRecDepth 20000 in
theorem ggX9_canBeGiven_X9_codeOf : GoodIn wsX9_canBeGiven wsX9_codeOf := goodIn_r _ [98] (by decide +kernel) (by decide +kernel)
set_option maxRecDepth 20000 in
theorem gX9_canBeGiven_X9_codeOf : GoodIn wsX9_canBeGiven (va_wsS RX9 301 yX9_codeOf wsX9_codeOf) := goodIn_app (goodIn_of _ (by decide +kernel)) ggX9_canBeGiven_X9_codeOf
set_option maxRecDepth 20000 in
theorem ggX9_canBeGiven_X4_holding : GoodIn wsX9_canBeGiven wsX4_holding := goodIn_r _ [102, 103, 104, 28, 16, 17, 18, 19, 20, 128, 129, 130, 131, 132, 133, 134, 135, 136, 137, 138, 139, 140, 141] (by decide +kernel) (by decide +kernel)
set_option maxRecDepth 20000 in
theorem gX9_canBeGiven_X4_holding : GoodIn wsX9_canBeGiven (wsV RX9 315 RX4 yX4_holding wsX4_holding) := goodIn_app (goodIn_of _ (by decide +kernel)) ggX9_canBeGiven_X4_holding
set_option maxRecDepth 20000 in
theorem ggX9_canBeGiven_X5_is : GoodIn wsX9_canBeGiven wsX5_is := goodIn_r _ [76, 20, 141] (by decide +kernel) (by decide +kernel)
set_option maxRecDepth 20000 in
theorem gX9_canBeGiven_X5_is : GoodIn wsX9_canBeGiven (wsV RX9 135 RX5 yX5_is wsX5_is) := goodIn_app (goodIn_of _ (by decide +kernel)) ggX9_canBeGiven_X5_is
set_option maxRecDepth 20000 in
theorem ggX9_canBeGiven_X8_isPastDue : GoodIn wsX9_canBeGiven wsX8_isPastDue := goodIn_r _ [88, 68, 162, 163, 164, 165, 166, 167, 168] (by decide +kernel) (by decide +kernel)
set_option maxRecDepth 20000 in
theorem gX9_canBeGiven_X8_isPastDue : GoodIn wsX9_canBeGiven (wsV RX9 321 RX8 yX8_isPastDue wsX8_isPastDue) := goodIn_app (goodIn_of _ (by decide +kernel)) ggX9_canBeGiven_X8_isPastDue
theorem dX9_canBeGiven_0 : decode cX9_canBeGiven 0 = .ok (.aload_n 0, 1) := by decide +kernel
theorem dX9_canBeGiven_1 : decode cX9_canBeGiven 1 = .ok (.getfield 33, 3) := by decide +kernel
theorem dX9_canBeGiven_4 : decode cX9_canBeGiven 4 = .ok (.iload_n 2, 1) := by decide +kernel
theorem dX9_canBeGiven_5 : decode cX9_canBeGiven 5 = .ok (.iload_n 3, 1) := by decide +kernel
theorem dX9_canBeGiven_6 : decode cX9_canBeGiven 6 = .ok (.invokevirtual 203, 3) := by decide +kernel
theorem dX9_canBeGiven_9 : decode cX9_canBeGiven 9 = .ok (.ifCond .ne 28, 3) := by decide +kernel
theorem dX9_canBeGiven_12 : decode cX9_canBeGiven 12 = .ok (.aload_n 0, 1) := by decide +kernel
theorem dX9_canBeGiven_13 : decode cX9_canBeGiven 13 = .ok (.getfield 33, 3) := by decide +kernel
theorem dX9_canBeGiven_16 : decode cX9_canBeGiven 16 = .ok (.getfield 308, 3) := by decide +kernel
theorem dX9_canBeGiven_19 : decode cX9_canBeGiven 19 = .ok (.iload_n 2, 1) := by decide +kernel
theorem dX9_canBeGiven_20 : decode cX9_canBeGiven 20 = .ok (.invokevirtual 104, 3) := by decide +kernel
theorem dX9_canBeGiven_23 : decode cX9_canBeGiven 23 = .ok (.aload_n 0, 1) := by decide +kernel
theorem dX9_canBeGiven_24 : decode cX9_canBeGiven 24 = .ok (.getfield 40, 3) := by decide +kernel
theorem dX9_canBeGiven_27 : decode cX9_canBeGiven 27 = .ok (.getfield 311, 3) := by decide +kernel
theorem dX9_canBeGiven_30 : decode cX9_canBeGiven 30 = .ok (.iload_n 1, 1) := by decide +kernel
theorem dX9_canBeGiven_31 : decode cX9_canBeGiven 31 = .ok (.invokevirtual 104, 3) := by decide +kernel
theorem dX9_canBeGiven_34 : decode cX9_canBeGiven 34 = .ok (.if_icmp .ne 5, 3) := by decide +kernel
theorem dX9_canBeGiven_37 : decode cX9_canBeGiven 37 = .ok (.iconst 0, 1) := by decide +kernel
theorem dX9_canBeGiven_38 : decode cX9_canBeGiven 38 = .ok (.ireturn, 1) := by decide +kernel
theorem dX9_canBeGiven_39 : decode cX9_canBeGiven 39 = .ok (.aload_n 0, 1) := by decide +kernel
theorem dX9_canBeGiven_40 : decode cX9_canBeGiven 40 = .ok (.getfield 40, 3) := by decide +kernel
theorem dX9_canBeGiven_43 : decode cX9_canBeGiven 43 = .ok (.iload_n 1, 1) := by decide +kernel
theorem dX9_canBeGiven_44 : decode cX9_canBeGiven 44 = .ok (.iload_n 3, 1) := by decide +kernel
theorem dX9_canBeGiven_45 : decode cX9_canBeGiven 45 = .ok (.invokevirtual 288, 3) := by decide +kernel
theorem dX9_canBeGiven_48 : decode cX9_canBeGiven 48 = .ok (.ifCond .eq 14, 3) := by decide +kernel
theorem dX9_canBeGiven_51 : decode cX9_canBeGiven 51 = .ok (.aload_n 0, 1) := by decide +kernel
theorem dX9_canBeGiven_52 : decode cX9_canBeGiven 52 = .ok (.getfield 26, 3) := by decide +kernel
theorem dX9_canBeGiven_55 : decode cX9_canBeGiven 55 = .ok (.iload_n 3, 1) := by decide +kernel
theorem dX9_canBeGiven_56 : decode cX9_canBeGiven 56 = .ok (.invokevirtual 148, 3) := by decide +kernel
theorem dX9_canBeGiven_59 : decode cX9_canBeGiven 59 = .ok (.ifCond .ne 5, 3) := by decide +kernel
theorem dX9_canBeGiven_62 : decode cX9_canBeGiven 62 = .ok (.iconst 0, 1) := by decide +kernel
theorem dX9_canBeGiven_63 : decode cX9_canBeGiven 63 = .ok (.ireturn, 1) := by decide +kernel
theorem dX9_canBeGiven_64 : decode cX9_canBeGiven 64 = .ok (.aload_n 0, 1) := by decide +kernel
theorem dX9_canBeGiven_65 : decode cX9_canBeGiven 65 = .ok (.iload_n 1, 1) := by decide +kernel
theorem dX9_canBeGiven_66 : decode cX9_canBeGiven 66 = .ok (.iload_n 2, 1) := by decide +kernel
theorem dX9_canBeGiven_67 : decode cX9_canBeGiven 67 = .ok (.iload_n 3, 1) := by decide +kernel
theorem dX9_canBeGiven_68 : decode cX9_canBeGiven 68 = .ok (.invokestatic 225, 3) := by decide +kernel
theorem dX9_canBeGiven_71 : decode cX9_canBeGiven 71 = .ok (.invokevirtual 312, 3) := by decide +kernel
theorem dX9_canBeGiven_74 : decode cX9_canBeGiven 74 = .ok (.ifCond .eq 5, 3) := by decide +kernel
theorem dX9_canBeGiven_77 : decode cX9_canBeGiven 77 = .ok (.iconst 0, 1) := by decide +kernel
theorem dX9_canBeGiven_78 : decode cX9_canBeGiven 78 = .ok (.ireturn, 1) := by decide +kernel
theorem dX9_canBeGiven_79 : decode cX9_canBeGiven 79 = .ok (.aload_n 0, 1) := by decide +kernel
theorem dX9_canBeGiven_80 : decode cX9_canBeGiven 80 = .ok (.iload_n 2, 1) := by decide +kernel
theorem dX9_canBeGiven_81 : decode cX9_canBeGiven 81 = .ok (.iload_n 3, 1) := by decide +kernel
theorem dX9_canBeGiven_82 : decode cX9_canBeGiven 82 = .ok (.invokevirtual 242, 3) := by decide +kernel
theorem dX9_canBeGiven_85 : decode cX9_canBeGiven 85 = .ok (.aload_n 0, 1) := by decide +kernel
theorem dX9_canBeGiven_86 : decode cX9_canBeGiven 86 = .ok (.getfield 40, 3) := by decide +kernel
theorem dX9_canBeGiven_89 : decode cX9_canBeGiven 89 = .ok (.iload_n 2, 1) := by decide +kernel
theorem dX9_canBeGiven_90 : decode cX9_canBeGiven 90 = .ok (.iload_n 3, 1) := by decide +kernel
theorem dX9_canBeGiven_91 : decode cX9_canBeGiven 91 = .ok (.invokestatic 301, 3) := by decide +kernel
theorem dX9_canBeGiven_94 : decode cX9_canBeGiven 94 = .ok (.invokevirtual 315, 3) := by decide +kernel
theorem dX9_canBeGiven_97 : decode cX9_canBeGiven 97 = .ok (.if_icmp .gt 5, 3) := by decide +kernel
theorem dX9_canBeGiven_100 : decode cX9_canBeGiven 100 = .ok (.iconst 0, 1) := by decide +kernel
theorem dX9_canBeGiven_101 : decode cX9_canBeGiven 101 = .ok (.ireturn, 1) := by decide +kernel
theorem dX9_canBeGiven_102 : decode cX9_canBeGiven 102 = .ok (.aload_n 0, 1) := by decide +kernel
theorem dX9_canBeGiven_103 : decode cX9_canBeGiven 103 = .ok (.getfield 40, 3) := by decide +kernel
theorem dX9_canBeGiven_106 : decode cX9_canBeGiven 106 = .ok (.getfield 318, 3) := by decide +kernel
theorem dX9_canBeGiven_109 : decode cX9_canBeGiven 109 = .ok (.iload_n 1, 1) := by decide +kernel
theorem dX9_canBeGiven_110 : decode cX9_canBeGiven 110 = .ok (.invokevirtual 135, 3) := by decide +kernel
theorem dX9_canBeGiven_113 : decode cX9_canBeGiven 113 = .ok (.ifCond .ne 21, 3) := by decide +kernel
theorem dX9_canBeGiven_116 : decode cX9_canBeGiven 116 = .ok (.aload_n 0, 1) := by decide +kernel
theorem dX9_canBeGiven_117 : decode cX9_canBeGiven 117 = .ok (.getfield 61, 3) := by decide +kernel
theorem dX9_canBeGiven_120 : decode cX9_canBeGiven 120 = .ok (.aload_n 0, 1) := by decide +kernel
theorem dX9_canBeGiven_121 : decode cX9_canBeGiven 121 = .ok (.getfield 70, 3) := by decide +kernel
theorem dX9_canBeGiven_124 : decode cX9_canBeGiven 124 = .ok (.iload_n 3, 1) := by decide +kernel
theorem dX9_canBeGiven_125 : decode cX9_canBeGiven 125 = .ok (.invokevirtual 135, 3) := by decide +kernel
theorem dX9_canBeGiven_128 : decode cX9_canBeGiven 128 = .ok (.invokevirtual 321, 3) := by decide +kernel
theorem dX9_canBeGiven_131 : decode cX9_canBeGiven 131 = .ok (.ifCond .ne 7, 3) := by decide +kernel
theorem dX9_canBeGiven_134 : decode cX9_canBeGiven 134 = .ok (.iconst 1, 1) := by decide +kernel
theorem dX9_canBeGiven_135 : decode cX9_canBeGiven 135 = .ok (.goto 4, 3) := by decide +kernel
theorem dX9_canBeGiven_138 : decode cX9_canBeGiven 138 = .ok (.iconst 0, 1) := by decide +kernel
theorem dX9_canBeGiven_139 : decode cX9_canBeGiven 139 = .ok (.ireturn, 1) := by decide +kernel
set_option maxRecDepth 20000 in
theorem ggX9_hasReadingBy_X5_get : GoodIn wsX9_hasReadingBy wsX5_get := goodIn_r _ [11, 12, 40] (by decide +kernel) (by decide +kernel)
set_option maxRecDepth 20000 in
theorem gX9_hasReadingBy_X5_get : GoodIn wsX9_hasReadingBy (wsV RX9 104 RX5 yX5_get wsX5_get) := goodIn_app (goodIn_of _ (by decide +kernel)) ggX9_hasReadingBy_X5_get
theorem dX9_hasReadingBy_0 : decode cX9_hasReadingBy 0 = .ok (.aload_n 0, 1) := by decide +kernel
theorem dX9_hasReadingBy_1 : decode cX9_hasReadingBy 1 = .ok (.getfield 54, 3) := by decide +kernel
theorem dX9_hasReadingBy_4 : decode cX9_hasReadingBy 4 = .ok (.getfield 325, 3) := by decide +kernel
theorem dX9_hasReadingBy_7 : decode cX9_hasReadingBy 7 = .ok (.iload_n 2, 1) := by decide +kernel
theorem dX9_hasReadingBy_8 : decode cX9_hasReadingBy 8 = .ok (.invokevirtual 104, 3) := by decide +kernel
theorem dX9_hasReadingBy_11 : decode cX9_hasReadingBy 11 = .ok (.istore_n 3, 1) := by decide +kernel
theorem dX9_hasReadingBy_12 : decode cX9_hasReadingBy 12 = .ok (.aload_n 0, 1) := by decide +kernel
theorem dX9_hasReadingBy_13 : decode cX9_hasReadingBy 13 = .ok (.getfield 54, 3) := by decide +kernel
theorem dX9_hasReadingBy_16 : decode cX9_hasReadingBy 16 = .ok (.getfield 328, 3) := by decide +kernel
theorem dX9_hasReadingBy_19 : decode cX9_hasReadingBy 19 = .ok (.iload_n 2, 1) := by decide +kernel
theorem dX9_hasReadingBy_20 : decode cX9_hasReadingBy 20 = .ok (.invokevirtual 104, 3) := by decide +kernel
theorem dX9_hasReadingBy_23 : decode cX9_hasReadingBy 23 = .ok (.istore 4, 2) := by decide +kernel
theorem dX9_hasReadingBy_25 : decode cX9_hasReadingBy 25 = .ok (.iconst 0, 1) := by decide +kernel
theorem dX9_hasReadingBy_26 : decode cX9_hasReadingBy 26 = .ok (.istore 5, 2) := by decide +kernel
theorem dX9_hasReadingBy_28 : decode cX9_hasReadingBy 28 = .ok (.iload 5, 2) := by decide +kernel
theorem dX9_hasReadingBy_30 : decode cX9_hasReadingBy 30 = .ok (.iload_n 3, 1) := by decide +kernel
theorem dX9_hasReadingBy_31 : decode cX9_hasReadingBy 31 = .ok (.if_icmp .ge 57, 3) := by decide +kernel
theorem dX9_hasReadingBy_34 : decode cX9_hasReadingBy 34 = .ok (.aload_n 0, 1) := by decide +kernel
theorem dX9_hasReadingBy_35 : decode cX9_hasReadingBy 35 = .ok (.getfield 54, 3) := by decide +kernel
theorem dX9_hasReadingBy_38 : decode cX9_hasReadingBy 38 = .ok (.getfield 331, 3) := by decide +kernel
theorem dX9_hasReadingBy_41 : decode cX9_hasReadingBy 41 = .ok (.iload 4, 2) := by decide +kernel
theorem dX9_hasReadingBy_43 : decode cX9_hasReadingBy 43 = .ok (.invokevirtual 104, 3) := by decide +kernel
theorem dX9_hasReadingBy_46 : decode cX9_hasReadingBy 46 = .ok (.iload_n 1, 1) := by decide +kernel
theorem dX9_hasReadingBy_47 : decode cX9_hasReadingBy 47 = .ok (.if_icmp .ne 21, 3) := by decide +kernel
theorem dX9_hasReadingBy_50 : decode cX9_hasReadingBy 50 = .ok (.aload_n 0, 1) := by decide +kernel
theorem dX9_hasReadingBy_51 : decode cX9_hasReadingBy 51 = .ok (.getfield 54, 3) := by decide +kernel
theorem dX9_hasReadingBy_54 : decode cX9_hasReadingBy 54 = .ok (.getfield 333, 3) := by decide +kernel
theorem dX9_hasReadingBy_57 : decode cX9_hasReadingBy 57 = .ok (.iload 4, 2) := by decide +kernel
theorem dX9_hasReadingBy_59 : decode cX9_hasReadingBy 59 = .ok (.invokevirtual 104, 3) := by decide +kernel
theorem dX9_hasReadingBy_62 : decode cX9_hasReadingBy 62 = .ok (.iconst (-1), 1) := by decide +kernel
theorem dX9_hasReadingBy_63 : decode cX9_hasReadingBy 63 = .ok (.if_icmp .eq 5, 3) := by decide +kernel
theorem dX9_hasReadingBy_66 : decode cX9_hasReadingBy 66 = .ok (.iconst 1, 1) := by decide +kernel
theorem dX9_hasReadingBy_67 : decode cX9_hasReadingBy 67 = .ok (.ireturn, 1) := by decide +kernel
theorem dX9_hasReadingBy_68 : decode cX9_hasReadingBy 68 = .ok (.aload_n 0, 1) := by decide +kernel
theorem dX9_hasReadingBy_69 : decode cX9_hasReadingBy 69 = .ok (.getfield 54, 3) := by decide +kernel
theorem dX9_hasReadingBy_72 : decode cX9_hasReadingBy 72 = .ok (.getfield 336, 3) := by decide +kernel
theorem dX9_hasReadingBy_75 : decode cX9_hasReadingBy 75 = .ok (.iload 4, 2) := by decide +kernel
theorem dX9_hasReadingBy_77 : decode cX9_hasReadingBy 77 = .ok (.invokevirtual 104, 3) := by decide +kernel
theorem dX9_hasReadingBy_80 : decode cX9_hasReadingBy 80 = .ok (.istore 4, 2) := by decide +kernel
theorem dX9_hasReadingBy_82 : decode cX9_hasReadingBy 82 = .ok (.iinc 5 1, 3) := by decide +kernel
theorem dX9_hasReadingBy_85 : decode cX9_hasReadingBy 85 = .ok (.goto (-57), 3) := by decide +kernel
theorem dX9_hasReadingBy_88 : decode cX9_hasReadingBy 88 = .ok (.iconst 0, 1) := by decide +kernel
theorem dX9_hasReadingBy_89 : decode cX9_hasReadingBy 89 = .ok (.ireturn, 1) := by decide +kernel
set_option maxRecDepth 20000 in
theorem ggX9_readSeed_X5_get : GoodIn wsX9_readSeed wsX5_get := goodIn_r _ [14, 15, 132] (by decide +kernel) (by decide +kernel)
set_option maxRecDepth 20000 in
theorem gX9_readSeed_X5_get : GoodIn wsX9_readSeed (wsV RX9 104 RX5 yX5_get wsX5_get) := goodIn_app (goodIn_of _ (by decide +kernel)) ggX9_readSeed_X5_get
set_option maxRecDepth 20000 in
theorem ggX9_readSeed_X6_markByLatest : GoodIn wsX9_readSeed wsX6_markByLatest := goodIn_r _ [20, 21, 22, 11, 12, 13, 14, 15, 23, 24, 25, 19, 26, 27, 28, 29, 30, 31, 32, 33, 34, 35, 36, 37, 38, 39, 40, 41, 42, 43, 44, 45, 46, 47, 48, 49, 50, 51, 52, 53, 54, 55, 133, 134, 135, 136, 137, 138, 139, 140, 132] (by decide +kernel) (by decide +kernel)
set_option maxRecDepth 20000 in
theorem gX9_readSeed_X6_markByLatest : GoodIn wsX9_readSeed (wsV RX9 342 RX6 yX6_markByLatest wsX6_markByLatest) := goodIn_app (goodIn_of _ (by decide +kernel)) ggX9_readSeed_X6_markByLatest
set_option maxRecDepth 20000 in
theorem ggX9_readSeed_X9_areApart : GoodIn wsX9_readSeed wsX9_areApart := goodIn_r _ [59] (by decide +kernel) (by decide +kernel)
set_option maxRecDepth 20000 in
theorem gX9_readSeed_X9_areApart : GoodIn wsX9_readSeed (va_wsS RX9 238 yX9_areApart wsX9_areApart) := goodIn_app (goodIn_of _ (by decide +kernel)) ggX9_readSeed_X9_areApart
set_option maxRecDepth 20000 in
theorem ggX9_readSeed_X9_stop : GoodIn wsX9_readSeed wsX9_stop := goodIn_r _ [63, 1, 64, 65, 8, 9, 66, 67, 68, 69, 70, 71, 72, 13, 73, 15, 10, 11, 12, 14, 74, 42, 43, 44, 75, 46, 47, 48, 89, 90, 91, 92, 93, 94, 95, 96, 97, 98, 99, 100, 101, 102, 103, 104, 105, 106, 107, 108, 109, 110, 111, 112, 113, 114, 115, 116, 120, 121, 122, 123, 124, 125, 126, 127, 128, 129, 130, 131, 132] (by decide +kernel) (by decide +kernel)
set_option maxRecDepth 20000 in
theorem gX9_readSeed_X9_stop : GoodIn wsX9_readSeed (wsV RX9 348 RX9 yX9_stop wsX9_stop) := goodIn_app (goodIn_of _ (by decide +kernel)) ggX9_readSeed_X9_stop
set_option maxRecDepth 20000 in
theorem ggX9_readSeed_X4_emptyHand : GoodIn wsX9_readSeed wsX4_emptyHand := goodIn_r _ [80, 81, 82, 42, 43, 13, 44, 15, 104, 105, 106, 107, 108, 109, 110, 111, 112, 113, 114, 115, 116, 132] (by decide +kernel) (by decide +kernel)
set_option maxRecDepth 20000 in
theorem gX9_readSeed_X4_emptyHand : GoodIn wsX9_readSeed (wsV RX9 351 RX4 yX4_emptyHand wsX4_emptyHand) := goodIn_app (goodIn_of _ (by decide +kernel)) ggX9_readSeed_X4_emptyHand
set_option maxRecDepth 20000 in
theorem ggX9_readSeed_X4_startAnew : GoodIn wsX9_readSeed wsX4_startAnew := goodIn_r _ [86, 87, 88, 82, 42, 43, 13, 44, 15, 104, 105, 106, 107, 108, 109, 110, 111, 112, 113, 114, 115, 116, 132] (by decide +kernel) (by decide +kernel)
set_option maxRecDepth 20000 in
theorem gX9_readSeed_X4_startAnew : GoodIn wsX9_readSeed (wsV RX9 171 RX4 yX4_startAnew wsX4_startAnew) := goodIn_app (goodIn_of _ (by decide +kernel)) ggX9_readSeed_X4_startAnew
theorem dX9_readSeed_0 : decode cX9_readSeed 0 = .ok (.aload_n 0, 1) := by decide +kernel
theorem dX9_readSeed_1 : decode cX9_readSeed 1 = .ok (.getfield 40, 3) := by decide +kernel
theorem dX9_readSeed_4 : decode cX9_readSeed 4 = .ok (.getfield 339, 3) := by decide +kernel
theorem dX9_readSeed_7 : decode cX9_readSeed 7 = .ok (.iload_n 1, 1) := by decide +kernel
theorem dX9_readSeed_8 : decode cX9_readSeed 8 = .ok (.invokevirtual 104, 3) := by decide +kernel
theorem dX9_readSeed_11 : decode cX9_readSeed 11 = .ok (.istore_n 3, 1) := by decide +kernel
theorem dX9_readSeed_12 : decode cX9_readSeed 12 = .ok (.aload_n 0, 1) := by decide +kernel
theorem dX9_readSeed_13 : decode cX9_readSeed 13 = .ok (.getfield 47, 3) := by decide +kernel
theorem dX9_readSeed_16 : decode cX9_readSeed 16 = .ok (.getfield 277, 3) := by decide +kernel
theorem dX9_readSeed_19 : decode cX9_readSeed 19 = .ok (.iload_n 3, 1) := by decide +kernel
theorem dX9_readSeed_20 : decode cX9_readSeed 20 = .ok (.invokevirtual 104, 3) := by decide +kernel
theorem dX9_readSeed_23 : decode cX9_readSeed 23 = .ok (.istore 4, 2) := by decide +kernel
theorem dX9_readSeed_25 : decode cX9_readSeed 25 = .ok (.aload_n 0, 1) := by decide +kernel
theorem dX9_readSeed_26 : decode cX9_readSeed 26 = .ok (.getfield 26, 3) := by decide +kernel
theorem dX9_readSeed_29 : decode cX9_readSeed 29 = .ok (.iload 4, 2) := by decide +kernel
theorem dX9_readSeed_31 : decode cX9_readSeed 31 = .ok (.iload_n 2, 1) := by decide +kernel
theorem dX9_readSeed_32 : decode cX9_readSeed 32 = .ok (.invokevirtual 342, 3) := by decide +kernel
theorem dX9_readSeed_35 : decode cX9_readSeed 35 = .ok (.istore 5, 2) := by decide +kernel
theorem dX9_readSeed_37 : decode cX9_readSeed 37 = .ok (.aload_n 0, 1) := by decide +kernel
theorem dX9_readSeed_38 : decode cX9_readSeed 38 = .ok (.getfield 26, 3) := by decide +kernel
theorem dX9_readSeed_41 : decode cX9_readSeed 41 = .ok (.iload 4, 2) := by decide +kernel
theorem dX9_readSeed_43 : decode cX9_readSeed 43 = .ok (.aload_n 0, 1) := by decide +kernel
theorem dX9_readSeed_44 : decode cX9_readSeed 44 = .ok (.getfield 47, 3) := by decide +kernel
theorem dX9_readSeed_47 : decode cX9_readSeed 47 = .ok (.getfield 345, 3) := by decide +kernel
theorem dX9_readSeed_50 : decode cX9_readSeed 50 = .ok (.iload_n 3, 1) := by decide +kernel
theorem dX9_readSeed_51 : decode cX9_readSeed 51 = .ok (.invokevirtual 104, 3) := by decide +kernel
theorem dX9_readSeed_54 : decode cX9_readSeed 54 = .ok (.invokevirtual 342, 3) := by decide +kernel
theorem dX9_readSeed_57 : decode cX9_readSeed 57 = .ok (.istore 6, 2) := by decide +kernel
theorem dX9_readSeed_59 : decode cX9_readSeed 59 = .ok (.iload 5, 2) := by decide +kernel
theorem dX9_readSeed_61 : decode cX9_readSeed 61 = .ok (.iload 6, 2) := by decide +kernel
theorem dX9_readSeed_63 : decode cX9_readSeed 63 = .ok (.aload_n 0, 1) := by decide +kernel
theorem dX9_readSeed_64 : decode cX9_readSeed 64 = .ok (.getfield 77, 3) := by decide +kernel
theorem dX9_readSeed_67 : decode cX9_readSeed 67 = .ok (.invokestatic 238, 3) := by decide +kernel
theorem dX9_readSeed_70 : decode cX9_readSeed 70 = .ok (.ifCond .eq 8, 3) := by decide +kernel
theorem dX9_readSeed_73 : decode cX9_readSeed 73 = .ok (.aload_n 0, 1) := by decide +kernel
theorem dX9_readSeed_74 : decode cX9_readSeed 74 = .ok (.iload_n 1, 1) := by decide +kernel
theorem dX9_readSeed_75 : decode cX9_readSeed 75 = .ok (.invokevirtual 348, 3) := by decide +kernel
theorem dX9_readSeed_78 : decode cX9_readSeed 78 = .ok (.aload_n 0, 1) := by decide +kernel
theorem dX9_readSeed_79 : decode cX9_readSeed 79 = .ok (.getfield 40, 3) := by decide +kernel
theorem dX9_readSeed_82 : decode cX9_readSeed 82 = .ok (.iload_n 1, 1) := by decide +kernel
theorem dX9_readSeed_83 : decode cX9_readSeed 83 = .ok (.invokevirtual 351, 3) := by decide +kernel
theorem dX9_readSeed_86 : decode cX9_readSeed 86 = .ok (.aload_n 0, 1) := by decide +kernel
theorem dX9_readSeed_87 : decode cX9_readSeed 87 = .ok (.getfield 40, 3) := by decide +kernel
theorem dX9_readSeed_90 : decode cX9_readSeed 90 = .ok (.iload_n 1, 1) := by decide +kernel
theorem dX9_readSeed_91 : decode cX9_readSeed 91 = .ok (.aload_n 0, 1) := by decide +kernel
theorem dX9_readSeed_92 : decode cX9_readSeed 92 = .ok (.getfield 54, 3) := by decide +kernel
theorem dX9_readSeed_95 : decode cX9_readSeed 95 = .ok (.getfield 164, 3) := by decide +kernel
theorem dX9_readSeed_98 : decode cX9_readSeed 98 = .ok (.invokevirtual 171, 3) := by decide +kernel
theorem dX9_readSeed_101 : decode cX9_readSeed 101 = .ok (.iload 5, 2) := by decide +kernel
theorem dX9_readSeed_103 : decode cX9_readSeed 103 = .ok (.ireturn, 1) := by decide +kernel
set_option maxRecDepth 20000 in
theorem ggX9_stop_X5_put : GoodIn wsX9_stop wsX5_put := goodIn_r _ [14, 15, 68] (by decide +kernel) (by decide +kernel)
set_option maxRecDepth 20000 in
theorem gX9_stop_X5_put : GoodIn wsX9_stop (wsV RX9 138 RX5 yX5_put wsX5_put) := goodIn_app (goodIn_of _ (by decide +kernel)) ggX9_stop_X5_put
set_option maxRecDepth 20000 in
theorem ggX9_stop_X5_get : GoodIn wsX9_stop wsX5_get := goodIn_r _ [19, 15, 68] (by decide +kernel) (by decide +kernel)
set_option maxRecDepth 20000 in
theorem gX9_stop_X5_get : GoodIn wsX9_stop (wsV RX9 104 RX5 yX5_get wsX5_get) := goodIn_app (goodIn_of _ (by decide +kernel)) ggX9_stop_X5_get
set_option maxRecDepth 20000 in
theorem ggX9_stop_X5_set : GoodIn wsX9_stop wsX5_set := goodIn_r _ [23, 15, 68] (by decide +kernel) (by decide +kernel)
set_option maxRecDepth 20000 in
theorem gX9_stop_X5_set : GoodIn wsX9_stop (wsV RX9 108 RX5 yX5_set wsX5_set) := goodIn_app (goodIn_of _ (by decide +kernel)) ggX9_stop_X5_set
set_option maxRecDepth 20000 in
theorem ggX9_stop_X5_add : GoodIn wsX9_stop wsX5_add := goodIn_r _ [27, 15, 68] (by decide +kernel) (by decide +kernel)
set_option maxRecDepth 20000 in
theorem gX9_stop_X5_add : GoodIn wsX9_stop (wsV RX9 358 RX5 yX5_add wsX5_add) := goodIn_app (goodIn_of _ (by decide +kernel)) ggX9_stop_X5_add
theorem dX9_stop_0 : decode cX9_stop 0 = .ok (.aload_n 0, 1) := by decide +kernel
theorem dX9_stop_1 : decode cX9_stop 1 = .ok (.getfield 40, 3) := by decide +kernel
theorem dX9_stop_4 : decode cX9_stop 4 = .ok (.getfield 155, 3) := by decide +kernel
theorem dX9_stop_7 : decode cX9_stop 7 = .ok (.iload_n 1, 1) := by decide +kernel
theorem dX9_stop_8 : decode cX9_stop 8 = .ok (.iconst 1, 1) := by decide +kernel
theorem dX9_stop_9 : decode cX9_stop 9 = .ok (.invokevirtual 138, 3) := by decide +kernel
theorem dX9_stop_12 : decode cX9_stop 12 = .ok (.aload_n 0, 1) := by decide +kernel
theorem dX9_stop_13 : decode cX9_stop 13 = .ok (.getfield 40, 3) := by decide +kernel
theorem dX9_stop_16 : decode cX9_stop 16 = .ok (.getfield 354, 3) := by decide +kernel
theorem dX9_stop_19 : decode cX9_stop 19 = .ok (.iload_n 1, 1) := by decide +kernel
theorem dX9_stop_20 : decode cX9_stop 20 = .ok (.invokevirtual 104, 3) := by decide +kernel
theorem dX9_stop_23 : decode cX9_stop 23 = .ok (.istore_n 2, 1) := by decide +kernel
theorem dX9_stop_24 : decode cX9_stop 24 = .ok (.iload_n 2, 1) := by decide +kernel
theorem dX9_stop_25 : decode cX9_stop 25 = .ok (.aload_n 0, 1) := by decide +kernel
theorem dX9_stop_26 : decode cX9_stop 26 = .ok (.getfield 54, 3) := by decide +kernel
theorem dX9_stop_29 : decode cX9_stop 29 = .ok (.getfield 164, 3) := by decide +kernel
theorem dX9_stop_32 : decode cX9_stop 32 = .ok (.if_icmp .ge 63, 3) := by decide +kernel
theorem dX9_stop_35 : decode cX9_stop 35 = .ok (.aload_n 0, 1) := by decide +kernel
theorem dX9_stop_36 : decode cX9_stop 36 = .ok (.getfield 54, 3) := by decide +kernel
theorem dX9_stop_39 : decode cX9_stop 39 = .ok (.getfield 331, 3) := by decide +kernel
theorem dX9_stop_42 : decode cX9_stop 42 = .ok (.iload_n 2, 1) := by decide +kernel
theorem dX9_stop_43 : decode cX9_stop 43 = .ok (.invokevirtual 104, 3) := by decide +kernel
theorem dX9_stop_46 : decode cX9_stop 46 = .ok (.iload_n 1, 1) := by decide +kernel
theorem dX9_stop_47 : decode cX9_stop 47 = .ok (.if_icmp .eq 6, 3) := by decide +kernel
theorem dX9_stop_50 : decode cX9_stop 50 = .ok (.goto 39, 3) := by decide +kernel
theorem dX9_stop_53 : decode cX9_stop 53 = .ok (.aload_n 0, 1) := by decide +kernel
theorem dX9_stop_54 : decode cX9_stop 54 = .ok (.getfield 54, 3) := by decide +kernel
theorem dX9_stop_57 : decode cX9_stop 57 = .ok (.getfield 357, 3) := by decide +kernel
theorem dX9_stop_60 : decode cX9_stop 60 = .ok (.iload_n 2, 1) := by decide +kernel
theorem dX9_stop_61 : decode cX9_stop 61 = .ok (.iconst 1, 1) := by decide +kernel
theorem dX9_stop_62 : decode cX9_stop 62 = .ok (.invokevirtual 138, 3) := by decide +kernel
theorem dX9_stop_65 : decode cX9_stop 65 = .ok (.aload_n 0, 1) := by decide +kernel
theorem dX9_stop_66 : decode cX9_stop 66 = .ok (.getfield 54, 3) := by decide +kernel
theorem dX9_stop_69 : decode cX9_stop 69 = .ok (.getfield 333, 3) := by decide +kernel
theorem dX9_stop_72 : decode cX9_stop 72 = .ok (.iload_n 2, 1) := by decide +kernel
theorem dX9_stop_73 : decode cX9_stop 73 = .ok (.iconst (-1), 1) := by decide +kernel
theorem dX9_stop_74 : decode cX9_stop 74 = .ok (.invokevirtual 108, 3) := by decide +kernel
theorem dX9_stop_77 : decode cX9_stop 77 = .ok (.aload_n 0, 1) := by decide +kernel
theorem dX9_stop_78 : decode cX9_stop 78 = .ok (.getfield 40, 3) := by decide +kernel
theorem dX9_stop_81 : decode cX9_stop 81 = .ok (.getfield 174, 3) := by decide +kernel
theorem dX9_stop_84 : decode cX9_stop 84 = .ok (.iload_n 1, 1) := by decide +kernel
theorem dX9_stop_85 : decode cX9_stop 85 = .ok (.iconst 1, 1) := by decide +kernel
theorem dX9_stop_86 : decode cX9_stop 86 = .ok (.invokevirtual 358, 3) := by decide +kernel
theorem dX9_stop_89 : decode cX9_stop 89 = .ok (.iinc 2 1, 3) := by decide +kernel
theorem dX9_stop_92 : decode cX9_stop 92 = .ok (.goto (-68), 3) := by decide +kernel
theorem dX9_stop_95 : decode cX9_stop 95 = .ok (.return_, 1) := by decide +kernel
set_option maxRecDepth 20000 in
theorem ggX9_readAnswer_X5_get : GoodIn wsX9_readAnswer wsX5_get := goodIn_r _ [16, 17, 139] (by decide +kernel) (by decide +kernel)
set_option maxRecDepth 20000 in
theorem gX9_readAnswer_X5_get : GoodIn wsX9_readAnswer (wsV RX9 104 RX5 yX5_get wsX5_get) := goodIn_app (goodIn_of _ (by decide +kernel)) ggX9_readAnswer_X5_get
set_option maxRecDepth 20000 in
theorem ggX9_readAnswer_X6_lettersOfLatest : GoodIn wsX9_readAnswer wsX6_lettersOfLatest := goodIn_r _ [22, 23, 24, 25, 13, 14, 15, 16, 17, 140, 141, 142, 143, 144, 145, 146, 147, 139] (by decide +kernel) (by decide +kernel)
set_option maxRecDepth 20000 in
theorem gX9_readAnswer_X6_lettersOfLatest : GoodIn wsX9_readAnswer (wsV RX9 361 RX6 yX6_lettersOfLatest wsX6_lettersOfLatest) := goodIn_app (goodIn_of _ (by decide +kernel)) ggX9_readAnswer_X6_lettersOfLatest
set_option maxRecDepth 20000 in
theorem ggX9_readAnswer_X6_markByLatest : GoodIn wsX9_readAnswer wsX6_markByLatest := goodIn_r _ [29, 24, 25, 13, 14, 15, 16, 17, 30, 31, 32, 21, 33, 34, 35, 36, 37, 38, 39, 40, 41, 42, 43, 44, 45, 46, 47, 48, 49, 50, 51, 52, 53, 54, 55, 56, 57, 58, 59, 60, 61, 62, 140, 141, 142, 143, 144, 145, 146, 147, 139] (by decide +kernel) (by decide +kernel)
set_option maxRecDepth 20000 in
theorem gX9_readAnswer_X6_markByLatest : GoodIn wsX9_readAnswer (wsV RX9 342 RX6 yX6_markByLatest wsX6_markByLatest) := goodIn_app (goodIn_of _ (by decide +kernel)) ggX9_readAnswer_X6_markByLatest
set_option maxRecDepth 20000 in
theorem ggX9_readAnswer_X9_answerOf : GoodIn wsX9_readAnswer wsX9_answerOf := goodIn_r _ [66] (by decide +kernel) (by decide +kernel)
set_option maxRecDepth 20000 in
theorem gX9_readAnswer_X9_answerOf : GoodIn wsX9_readAnswer (va_wsS RX9 225 yX9_answerOf wsX9_answerOf) := goodIn_app (goodIn_of _ (by decide +kernel)) ggX9_readAnswer_X9_answerOf
set_option maxRecDepth 20000 in
theorem ggX9_readAnswer_X2_enter : GoodIn wsX9_readAnswer wsX2_enter := goodIn_r _ [71, 72, 73, 74, 75, 76, 77, 78, 79, 49, 50, 15, 51, 17, 80, 13, 14, 16, 81, 53, 54, 55, 127, 128, 129, 130, 131, 132, 133, 134, 135, 136, 137, 138, 139] (by decide +kernel) (by decide +kernel)
set_option maxRecDepth 20000 in
theorem gX9_readAnswer_X2_enter : GoodIn wsX9_readAnswer (wsV RX9 364 RX2 yX2_enter wsX2_enter) := goodIn_app (goodIn_of _ (by decide +kernel)) ggX9_readAnswer_X2_enter
set_option maxRecDepth 20000 in
theorem ggX9_readAnswer_X5_set : GoodIn wsX9_readAnswer wsX5_set := goodIn_r _ [51, 17, 139] (by decide +kernel) (by decide +kernel)
set_option maxRecDepth 20000 in
theorem gX9_readAnswer_X5_set : GoodIn wsX9_readAnswer (wsV RX9 108 RX5 yX5_set wsX5_set) := goodIn_app (goodIn_of _ (by decide +kernel)) ggX9_readAnswer_X5_set
set_option maxRecDepth 20000 in
theorem ggX9_readAnswer_X5_is : GoodIn wsX9_readAnswer wsX5_is := goodIn_r _ [86, 17, 139] (by decide +kernel) (by decide +kernel)
set_option maxRecDepth 20000 in
theorem gX9_readAnswer_X5_is : GoodIn wsX9_readAnswer (wsV RX9 135 RX5 yX5_is wsX5_is) := goodIn_app (goodIn_of _ (by decide +kernel)) ggX9_readAnswer_X5_is
set_option maxRecDepth 20000 in
theorem ggX9_readAnswer_X5_put : GoodIn wsX9_readAnswer wsX5_put := goodIn_r _ [90, 17, 139] (by decide +kernel) (by decide +kernel)
set_option maxRecDepth 20000 in
theorem gX9_readAnswer_X5_put : GoodIn wsX9_readAnswer (wsV RX9 138 RX5 yX5_put wsX5_put) := goodIn_app (goodIn_of _ (by decide +kernel)) ggX9_readAnswer_X5_put
set_option maxRecDepth 20000 in
theorem ggX9_readAnswer_X4_emptyHand : GoodIn wsX9_readAnswer wsX4_emptyHand := goodIn_r _ [95, 96, 97, 49, 50, 15, 51, 17, 114, 115, 116, 117, 118, 119, 120, 121, 122, 123, 124, 125, 126, 139] (by decide +kernel) (by decide +kernel)
set_option maxRecDepth 20000 in
theorem gX9_readAnswer_X4_emptyHand : GoodIn wsX9_readAnswer (wsV RX9 351 RX4 yX4_emptyHand wsX4_emptyHand) := goodIn_app (goodIn_of _ (by decide +kernel)) ggX9_readAnswer_X4_emptyHand
set_option maxRecDepth 20000 in
theorem ggX9_readAnswer_X5_add : GoodIn wsX9_readAnswer wsX5_add := goodIn_r _ [55, 17, 139] (by decide +kernel) (by decide +kernel)
set_option maxRecDepth 20000 in
theorem gX9_readAnswer_X5_add : GoodIn wsX9_readAnswer (wsV RX9 358 RX5 yX5_add wsX5_add) := goodIn_app (goodIn_of _ (by decide +kernel)) ggX9_readAnswer_X5_add
theorem dX9_readAnswer_0 : decode cX9_readAnswer 0 = .ok (.aload_n 0, 1) := by decide +kernel
theorem dX9_readAnswer_1 : decode cX9_readAnswer 1 = .ok (.getfield 40, 3) := by decide +kernel
theorem dX9_readAnswer_4 : decode cX9_readAnswer 4 = .ok (.getfield 158, 3) := by decide +kernel
theorem dX9_readAnswer_7 : decode cX9_readAnswer 7 = .ok (.iload_n 1, 1) := by decide +kernel
theorem dX9_readAnswer_8 : decode cX9_readAnswer 8 = .ok (.invokevirtual 104, 3) := by decide +kernel
theorem dX9_readAnswer_11 : decode cX9_readAnswer 11 = .ok (.istore_n 3, 1) := by decide +kernel
theorem dX9_readAnswer_12 : decode cX9_readAnswer 12 = .ok (.iload_n 3, 1) := by decide +kernel
theorem dX9_readAnswer_13 : decode cX9_readAnswer 13 = .ok (.bipush 10, 2) := by decide +kernel
theorem dX9_readAnswer_15 : decode cX9_readAnswer 15 = .ok (.irem, 1) := by decide +kernel
theorem dX9_readAnswer_16 : decode cX9_readAnswer 16 = .ok (.istore 4, 2) := by decide +kernel
theorem dX9_readAnswer_18 : decode cX9_readAnswer 18 = .ok (.aload_n 0, 1) := by decide +kernel
theorem dX9_readAnswer_19 : decode cX9_readAnswer 19 = .ok (.getfield 26, 3) := by decide +kernel
theorem dX9_readAnswer_22 : decode cX9_readAnswer 22 = .ok (.iload 4, 2) := by decide +kernel
theorem dX9_readAnswer_24 : decode cX9_readAnswer 24 = .ok (.invokevirtual 361, 3) := by decide +kernel
theorem dX9_readAnswer_27 : decode cX9_readAnswer 27 = .ok (.istore 5, 2) := by decide +kernel
theorem dX9_readAnswer_29 : decode cX9_readAnswer 29 = .ok (.aload_n 0, 1) := by decide +kernel
theorem dX9_readAnswer_30 : decode cX9_readAnswer 30 = .ok (.getfield 26, 3) := by decide +kernel
theorem dX9_readAnswer_33 : decode cX9_readAnswer 33 = .ok (.iload 4, 2) := by decide +kernel
theorem dX9_readAnswer_35 : decode cX9_readAnswer 35 = .ok (.iload_n 2, 1) := by decide +kernel
theorem dX9_readAnswer_36 : decode cX9_readAnswer 36 = .ok (.iload 5, 2) := by decide +kernel
theorem dX9_readAnswer_38 : decode cX9_readAnswer 38 = .ok (.iand, 1) := by decide +kernel
theorem dX9_readAnswer_39 : decode cX9_readAnswer 39 = .ok (.invokevirtual 342, 3) := by decide +kernel
theorem dX9_readAnswer_42 : decode cX9_readAnswer 42 = .ok (.istore 6, 2) := by decide +kernel
theorem dX9_readAnswer_44 : decode cX9_readAnswer 44 = .ok (.aload_n 0, 1) := by decide +kernel
theorem dX9_readAnswer_45 : decode cX9_readAnswer 45 = .ok (.getfield 54, 3) := by decide +kernel
theorem dX9_readAnswer_48 : decode cX9_readAnswer 48 = .ok (.iload_n 3, 1) := by decide +kernel
theorem dX9_readAnswer_49 : decode cX9_readAnswer 49 = .ok (.bipush 10, 2) := by decide +kernel
theorem dX9_readAnswer_51 : decode cX9_readAnswer 51 = .ok (.idiv, 1) := by decide +kernel
theorem dX9_readAnswer_52 : decode cX9_readAnswer 52 = .ok (.iload 4, 2) := by decide +kernel
theorem dX9_readAnswer_54 : decode cX9_readAnswer 54 = .ok (.invokestatic 225, 3) := by decide +kernel
theorem dX9_readAnswer_57 : decode cX9_readAnswer 57 = .ok (.iload_n 1, 1) := by decide +kernel
theorem dX9_readAnswer_58 : decode cX9_readAnswer 58 = .ok (.invokevirtual 364, 3) := by decide +kernel
theorem dX9_readAnswer_61 : decode cX9_readAnswer 61 = .ok (.istore 7, 2) := by decide +kernel
theorem dX9_readAnswer_63 : decode cX9_readAnswer 63 = .ok (.aload_n 0, 1) := by decide +kernel
theorem dX9_readAnswer_64 : decode cX9_readAnswer 64 = .ok (.getfield 54, 3) := by decide +kernel
theorem dX9_readAnswer_67 : decode cX9_readAnswer 67 = .ok (.getfield 365, 3) := by decide +kernel
theorem dX9_readAnswer_70 : decode cX9_readAnswer 70 = .ok (.iload 7, 2) := by decide +kernel
theorem dX9_readAnswer_72 : decode cX9_readAnswer 72 = .ok (.iload_n 2, 1) := by decide +kernel
theorem dX9_readAnswer_73 : decode cX9_readAnswer 73 = .ok (.iload 5, 2) := by decide +kernel
theorem dX9_readAnswer_75 : decode cX9_readAnswer 75 = .ok (.iand, 1) := by decide +kernel
theorem dX9_readAnswer_76 : decode cX9_readAnswer 76 = .ok (.invokevirtual 108, 3) := by decide +kernel
theorem dX9_readAnswer_79 : decode cX9_readAnswer 79 = .ok (.aload_n 0, 1) := by decide +kernel
theorem dX9_readAnswer_80 : decode cX9_readAnswer 80 = .ok (.getfield 54, 3) := by decide +kernel
theorem dX9_readAnswer_83 : decode cX9_readAnswer 83 = .ok (.getfield 366, 3) := by decide +kernel
theorem dX9_readAnswer_86 : decode cX9_readAnswer 86 = .ok (.iload 7, 2) := by decide +kernel
theorem dX9_readAnswer_88 : decode cX9_readAnswer 88 = .ok (.iload 5, 2) := by decide +kernel
theorem dX9_readAnswer_90 : decode cX9_readAnswer 90 = .ok (.invokevirtual 108, 3) := by decide +kernel
theorem dX9_readAnswer_93 : decode cX9_readAnswer 93 = .ok (.aload_n 0, 1) := by decide +kernel
theorem dX9_readAnswer_94 : decode cX9_readAnswer 94 = .ok (.getfield 54, 3) := by decide +kernel
theorem dX9_readAnswer_97 : decode cX9_readAnswer 97 = .ok (.getfield 369, 3) := by decide +kernel
theorem dX9_readAnswer_100 : decode cX9_readAnswer 100 = .ok (.iload 7, 2) := by decide +kernel
theorem dX9_readAnswer_102 : decode cX9_readAnswer 102 = .ok (.aload_n 0, 1) := by decide +kernel
theorem dX9_readAnswer_103 : decode cX9_readAnswer 103 = .ok (.getfield 40, 3) := by decide +kernel
theorem dX9_readAnswer_106 : decode cX9_readAnswer 106 = .ok (.getfield 372, 3) := by decide +kernel
theorem dX9_readAnswer_109 : decode cX9_readAnswer 109 = .ok (.iload_n 1, 1) := by decide +kernel
theorem dX9_readAnswer_110 : decode cX9_readAnswer 110 = .ok (.invokevirtual 135, 3) := by decide +kernel
theorem dX9_readAnswer_113 : decode cX9_readAnswer 113 = .ok (.invokevirtual 138, 3) := by decide +kernel
theorem dX9_readAnswer_116 : decode cX9_readAnswer 116 = .ok (.aload_n 0, 1) := by decide +kernel
theorem dX9_readAnswer_117 : decode cX9_readAnswer 117 = .ok (.getfield 54, 3) := by decide +kernel
theorem dX9_readAnswer_120 : decode cX9_readAnswer 120 = .ok (.getfield 333, 3) := by decide +kernel
theorem dX9_readAnswer_123 : decode cX9_readAnswer 123 = .ok (.iload 7, 2) := by decide +kernel
theorem dX9_readAnswer_125 : decode cX9_readAnswer 125 = .ok (.iload 6, 2) := by decide +kernel
theorem dX9_readAnswer_127 : decode cX9_readAnswer 127 = .ok (.invokevirtual 108, 3) := by decide +kernel
theorem dX9_readAnswer_130 : decode cX9_readAnswer 130 = .ok (.aload_n 0, 1) := by decide +kernel
theorem dX9_readAnswer_131 : decode cX9_readAnswer 131 = .ok (.getfield 40, 3) := by decide +kernel
theorem dX9_readAnswer_134 : decode cX9_readAnswer 134 = .ok (.iload_n 1, 1) := by decide +kernel
theorem dX9_readAnswer_135 : decode cX9_readAnswer 135 = .ok (.invokevirtual 351, 3) := by decide +kernel
theorem dX9_readAnswer_138 : decode cX9_readAnswer 138 = .ok (.aload_n 0, 1) := by decide +kernel
theorem dX9_readAnswer_139 : decode cX9_readAnswer 139 = .ok (.getfield 40, 3) := by decide +kernel
theorem dX9_readAnswer_142 : decode cX9_readAnswer 142 = .ok (.getfield 260, 3) := by decide +kernel
theorem dX9_readAnswer_145 : decode cX9_readAnswer 145 = .ok (.iload_n 1, 1) := by decide +kernel
theorem dX9_readAnswer_146 : decode cX9_readAnswer 146 = .ok (.iconst 1, 1) := by decide +kernel
theorem dX9_readAnswer_147 : decode cX9_readAnswer 147 = .ok (.invokevirtual 358, 3) := by decide +kernel
theorem dX9_readAnswer_150 : decode cX9_readAnswer 150 = .ok (.aload_n 0, 1) := by decide +kernel
theorem dX9_readAnswer_151 : decode cX9_readAnswer 151 = .ok (.getfield 40, 3) := by decide +kernel
theorem dX9_readAnswer_154 : decode cX9_readAnswer 154 = .ok (.getfield 263, 3) := by decide +kernel
theorem dX9_readAnswer_157 : decode cX9_readAnswer 157 = .ok (.iload_n 1, 1) := by decide +kernel
theorem dX9_readAnswer_158 : decode cX9_readAnswer 158 = .ok (.iconst 1, 1) := by decide +kernel
theorem dX9_readAnswer_159 : decode cX9_readAnswer 159 = .ok (.invokevirtual 358, 3) := by decide +kernel
theorem dX9_readAnswer_162 : decode cX9_readAnswer 162 = .ok (.iload 6, 2) := by decide +kernel
theorem dX9_readAnswer_164 : decode cX9_readAnswer 164 = .ok (.ireturn, 1) := by decide +kernel
set_option maxRecDepth 20000 in
theorem ggX9_weighReadings_X5_get : GoodIn wsX9_weighReadings wsX5_get := goodIn_r _ [11, 12, 97] (by decide +kernel) (by decide +kernel)
set_option maxRecDepth 20000 in
theorem gX9_weighReadings_X5_get : GoodIn wsX9_weighReadings (wsV RX9 104 RX5 yX5_get wsX5_get) := goodIn_app (goodIn_of _ (by decide +kernel)) ggX9_weighReadings_X5_get
set_option maxRecDepth 20000 in
theorem ggX9_weighReadings_X9_isCounting : GoodIn wsX9_weighReadings wsX9_isCounting := goodIn_r _ [17, 1, 18, 5, 19, 20, 21, 22, 10, 23, 12, 24, 25, 26, 27, 28, 29, 30, 31, 8, 9, 11, 7, 70, 71, 72, 73, 74, 75, 76, 77, 78, 79, 80, 81, 82, 83, 84, 85, 86, 87, 88, 89, 90, 91, 92, 93, 94, 95, 96, 97, 98, 99, 100, 101, 102, 103, 104, 105] (by decide +kernel) (by decide +kernel)
set_option maxRecDepth 20000 in
theorem gX9_weighReadings_X9_isCounting : GoodIn wsX9_weighReadings (wsV RX9 378 RX9 yX9_isCounting wsX9_isCounting) := goodIn_app (goodIn_of _ (by decide +kernel)) ggX9_weighReadings_X9_isCounting
set_option maxRecDepth 20000 in
theorem ggX9_weighReadings_X6_markByLatest : GoodIn wsX9_weighReadings wsX6_markByLatest := goodIn_r _ [35, 30, 31, 8, 9, 10, 11, 12, 36, 37, 38, 27, 39, 40, 41, 42, 43, 44, 45, 46, 47, 48, 49, 50, 51, 52, 53, 54, 55, 56, 57, 58, 59, 60, 61, 62, 63, 64, 65, 66, 67, 68, 98, 99, 100, 101, 102, 103, 104, 105, 97] (by decide +kernel) (by decide +kernel)
set_option maxRecDepth 20000 in
theorem gX9_weighReadings_X6_markByLatest : GoodIn wsX9_weighReadings (wsV RX9 342 RX6 yX6_markByLatest wsX6_markByLatest) := goodIn_app (goodIn_of _ (by decide +kernel)) ggX9_weighReadings_X6_markByLatest
set_option maxRecDepth 20000 in
theorem ggX9_weighReadings_X5_set : GoodIn wsX9_weighReadings wsX5_set := goodIn_r _ [57, 12, 97] (by decide +kernel) (by decide +kernel)
set_option maxRecDepth 20000 in
theorem gX9_weighReadings_X5_set : GoodIn wsX9_weighReadings (wsV RX9 108 RX5 yX5_set wsX5_set) := goodIn_app (goodIn_of _ (by decide +kernel)) ggX9_weighReadings_X5_set
theorem dX9_weighReadings_0 : decode cX9_weighReadings 0 = .ok (.iconst 0, 1) := by decide +kernel
theorem dX9_weighReadings_1 : decode cX9_weighReadings 1 = .ok (.istore_n 2, 1) := by decide +kernel
theorem dX9_weighReadings_2 : decode cX9_weighReadings 2 = .ok (.iload_n 2, 1) := by decide +kernel
theorem dX9_weighReadings_3 : decode cX9_weighReadings 3 = .ok (.aload_n 0, 1) := by decide +kernel
theorem dX9_weighReadings_4 : decode cX9_weighReadings 4 = .ok (.getfield 54, 3) := by decide +kernel
theorem dX9_weighReadings_7 : decode cX9_weighReadings 7 = .ok (.getfield 164, 3) := by decide +kernel
theorem dX9_weighReadings_10 : decode cX9_weighReadings 10 = .ok (.if_icmp .ge 72, 3) := by decide +kernel
theorem dX9_weighReadings_13 : decode cX9_weighReadings 13 = .ok (.aload_n 0, 1) := by decide +kernel
theorem dX9_weighReadings_14 : decode cX9_weighReadings 14 = .ok (.getfield 54, 3) := by decide +kernel
theorem dX9_weighReadings_17 : decode cX9_weighReadings 17 = .ok (.getfield 375, 3) := by decide +kernel
theorem dX9_weighReadings_20 : decode cX9_weighReadings 20 = .ok (.iload_n 2, 1) := by decide +kernel
theorem dX9_weighReadings_21 : decode cX9_weighReadings 21 = .ok (.invokevirtual 104, 3) := by decide +kernel
theorem dX9_weighReadings_24 : decode cX9_weighReadings 24 = .ok (.iconst 4, 1) := by decide +kernel
theorem dX9_weighReadings_25 : decode cX9_weighReadings 25 = .ok (.irem, 1) := by decide +kernel
theorem dX9_weighReadings_26 : decode cX9_weighReadings 26 = .ok (.iload_n 1, 1) := by decide +kernel
theorem dX9_weighReadings_27 : decode cX9_weighReadings 27 = .ok (.if_icmp .eq 6, 3) := by decide +kernel
theorem dX9_weighReadings_30 : decode cX9_weighReadings 30 = .ok (.goto 46, 3) := by decide +kernel
theorem dX9_weighReadings_33 : decode cX9_weighReadings 33 = .ok (.aload_n 0, 1) := by decide +kernel
theorem dX9_weighReadings_34 : decode cX9_weighReadings 34 = .ok (.getfield 54, 3) := by decide +kernel
theorem dX9_weighReadings_37 : decode cX9_weighReadings 37 = .ok (.getfield 333, 3) := by decide +kernel
theorem dX9_weighReadings_40 : decode cX9_weighReadings 40 = .ok (.iload_n 2, 1) := by decide +kernel
theorem dX9_weighReadings_41 : decode cX9_weighReadings 41 = .ok (.aload_n 0, 1) := by decide +kernel
theorem dX9_weighReadings_42 : decode cX9_weighReadings 42 = .ok (.iload_n 2, 1) := by decide +kernel
theorem dX9_weighReadings_43 : decode cX9_weighReadings 43 = .ok (.iload_n 1, 1) := by decide +kernel
theorem dX9_weighReadings_44 : decode cX9_weighReadings 44 = .ok (.invokevirtual 378, 3) := by decide +kernel
theorem dX9_weighReadings_47 : decode cX9_weighReadings 47 = .ok (.ifCond .eq 25, 3) := by decide +kernel
theorem dX9_weighReadings_50 : decode cX9_weighReadings 50 = .ok (.aload_n 0, 1) := by decide +kernel
theorem dX9_weighReadings_51 : decode cX9_weighReadings 51 = .ok (.getfield 26, 3) := by decide +kernel
theorem dX9_weighReadings_54 : decode cX9_weighReadings 54 = .ok (.iload_n 1, 1) := by decide +kernel
theorem dX9_weighReadings_55 : decode cX9_weighReadings 55 = .ok (.aload_n 0, 1) := by decide +kernel
theorem dX9_weighReadings_56 : decode cX9_weighReadings 56 = .ok (.getfield 54, 3) := by decide +kernel
theorem dX9_weighReadings_59 : decode cX9_weighReadings 59 = .ok (.getfield 365, 3) := by decide +kernel
theorem dX9_weighReadings_62 : decode cX9_weighReadings 62 = .ok (.iload_n 2, 1) := by decide +kernel
theorem dX9_weighReadings_63 : decode cX9_weighReadings 63 = .ok (.invokevirtual 104, 3) := by decide +kernel
theorem dX9_weighReadings_66 : decode cX9_weighReadings 66 = .ok (.invokevirtual 342, 3) := by decide +kernel
theorem dX9_weighReadings_69 : decode cX9_weighReadings 69 = .ok (.goto 4, 3) := by decide +kernel
theorem dX9_weighReadings_72 : decode cX9_weighReadings 72 = .ok (.iconst (-1), 1) := by decide +kernel
theorem dX9_weighReadings_73 : decode cX9_weighReadings 73 = .ok (.invokevirtual 108, 3) := by decide +kernel
theorem dX9_weighReadings_76 : decode cX9_weighReadings 76 = .ok (.iinc 2 1, 3) := by decide +kernel
theorem dX9_weighReadings_79 : decode cX9_weighReadings 79 = .ok (.goto (-77), 3) := by decide +kernel
theorem dX9_weighReadings_82 : decode cX9_weighReadings 82 = .ok (.return_, 1) := by decide +kernel
set_option maxRecDepth 20000 in
theorem ggX9_isCounting_X5_is : GoodIn wsX9_isCounting wsX5_is := goodIn_r _ [9, 10, 50] (by decide +kernel) (by decide +kernel)
set_option maxRecDepth 20000 in
theorem gX9_isCounting_X5_is : GoodIn wsX9_isCounting (wsV RX9 135 RX5 yX5_is wsX5_is) := goodIn_app (goodIn_of _ (by decide +kernel)) ggX9_isCounting_X5_is
set_option maxRecDepth 20000 in
theorem ggX9_isCounting_X6_lettersOfLatest : GoodIn wsX9_isCounting wsX6_lettersOfLatest := goodIn_r _ [15, 16, 17, 18, 19, 20, 8, 21, 10, 51, 52, 53, 54, 55, 56, 57, 58, 50] (by decide +kernel) (by decide +kernel)
set_option maxRecDepth 20000 in
theorem gX9_isCounting_X6_lettersOfLatest : GoodIn wsX9_isCounting (wsV RX9 361 RX6 yX6_lettersOfLatest wsX6_lettersOfLatest) := goodIn_app (goodIn_of _ (by decide +kernel)) ggX9_isCounting_X6_lettersOfLatest
set_option maxRecDepth 20000 in
theorem ggX9_isCounting_X5_get : GoodIn wsX9_isCounting wsX5_get := goodIn_r _ [21, 10, 50] (by decide +kernel) (by decide +kernel)
set_option maxRecDepth 20000 in
theorem gX9_isCounting_X5_get : GoodIn wsX9_isCounting (wsV RX9 104 RX5 yX5_get wsX5_get) := goodIn_app (goodIn_of _ (by decide +kernel)) ggX9_isCounting_X5_get
theorem dX9_isCounting_0 : decode cX9_isCounting 0 = .ok (.aload_n 0, 1) := by decide +kernel
theorem dX9_isCounting_1 : decode cX9_isCounting 1 = .ok (.getfield 54, 3) := by decide +kernel
theorem dX9_isCounting_4 : decode cX9_isCounting 4 = .ok (.getfield 357, 3) := by decide +kernel
theorem dX9_isCounting_7 : decode cX9_isCounting 7 = .ok (.iload_n 1, 1) := by decide +kernel
theorem dX9_isCounting_8 : decode cX9_isCounting 8 = .ok (.invokevirtual 135, 3) := by decide +kernel
theorem dX9_isCounting_11 : decode cX9_isCounting 11 = .ok (.ifCond .ne 32, 3) := by decide +kernel
theorem dX9_isCounting_14 : decode cX9_isCounting 14 = .ok (.aload_n 0, 1) := by decide +kernel
theorem dX9_isCounting_15 : decode cX9_isCounting 15 = .ok (.getfield 26, 3) := by decide +kernel
theorem dX9_isCounting_18 : decode cX9_isCounting 18 = .ok (.iload_n 2, 1) := by decide +kernel
theorem dX9_isCounting_19 : decode cX9_isCounting 19 = .ok (.invokevirtual 361, 3) := by decide +kernel
theorem dX9_isCounting_22 : decode cX9_isCounting 22 = .ok (.aload_n 0, 1) := by decide +kernel
theorem dX9_isCounting_23 : decode cX9_isCounting 23 = .ok (.getfield 54, 3) := by decide +kernel
theorem dX9_isCounting_26 : decode cX9_isCounting 26 = .ok (.getfield 366, 3) := by decide +kernel
theorem dX9_isCounting_29 : decode cX9_isCounting 29 = .ok (.iload_n 1, 1) := by decide +kernel
theorem dX9_isCounting_30 : decode cX9_isCounting 30 = .ok (.invokevirtual 104, 3) := by decide +kernel
theorem dX9_isCounting_33 : decode cX9_isCounting 33 = .ok (.iconst (-1), 1) := by decide +kernel
theorem dX9_isCounting_34 : decode cX9_isCounting 34 = .ok (.ixor, 1) := by decide +kernel
theorem dX9_isCounting_35 : decode cX9_isCounting 35 = .ok (.iand, 1) := by decide +kernel
theorem dX9_isCounting_36 : decode cX9_isCounting 36 = .ok (.ifCond .ne 7, 3) := by decide +kernel
theorem dX9_isCounting_39 : decode cX9_isCounting 39 = .ok (.iconst 1, 1) := by decide +kernel
theorem dX9_isCounting_40 : decode cX9_isCounting 40 = .ok (.goto 4, 3) := by decide +kernel
theorem dX9_isCounting_43 : decode cX9_isCounting 43 = .ok (.iconst 0, 1) := by decide +kernel
theorem dX9_isCounting_44 : decode cX9_isCounting 44 = .ok (.ireturn, 1) := by decide +kernel
set_option maxRecDepth 20000 in
theorem ggX9_tallyUp_X8_clear : GoodIn wsX9_tallyUp wsX8_clear := goodIn_r _ [15, 16, 17, 18, 19, 20, 21, 22, 81, 82, 83, 84, 85, 86, 87] (by decide +kernel) (by decide +kernel)
set_option maxRecDepth 20000 in
theorem gX9_tallyUp_X8_clear : GoodIn wsX9_tallyUp (wsV RX9 381 RX8 yX8_clear wsX8_clear) := goodIn_app (goodIn_of _ (by decide +kernel)) ggX9_tallyUp_X8_clear
set_option maxRecDepth 20000 in
theorem ggX9_tallyUp_X9_answerOf : GoodIn wsX9_tallyUp wsX9_answerOf := goodIn_r _ [26] (by decide +kernel) (by decide +kernel)
set_option maxRecDepth 20000 in
theorem gX9_tallyUp_X9_answerOf : GoodIn wsX9_tallyUp (va_wsS RX9 225 yX9_answerOf wsX9_answerOf) := goodIn_app (goodIn_of _ (by decide +kernel)) ggX9_tallyUp_X9_answerOf
set_option maxRecDepth 20000 in
theorem ggX9_tallyUp_X5_get : GoodIn wsX9_tallyUp wsX5_get := goodIn_r _ [31, 32, 88] (by decide +kernel) (by decide +kernel)
set_option maxRecDepth 20000 in
theorem gX9_tallyUp_X5_get : GoodIn wsX9_tallyUp (wsV RX9 104 RX5 yX5_get wsX5_get) := goodIn_app (goodIn_of _ (by decide +kernel)) ggX9_tallyUp_X5_get
set_option maxRecDepth 20000 in
theorem ggX9_tallyUp_X5_is : GoodIn wsX9_tallyUp wsX5_is := goodIn_r _ [36, 32, 88] (by decide +kernel) (by decide +kernel)
set_option maxRecDepth 20000 in
theorem gX9_tallyUp_X5_is : GoodIn wsX9_tallyUp (wsV RX9 135 RX5 yX5_is wsX5_is) := goodIn_app (goodIn_of _ (by decide +kernel)) ggX9_tallyUp_X5_is
set_option maxRecDepth 20000 in
theorem ggX9_tallyUp_X8_take : GoodIn wsX9_tallyUp wsX8_take := goodIn_r _ [40, 16, 17, 22, 18, 19, 20, 21, 81, 82, 83, 84, 85, 86, 87] (by decide +kernel) (by decide +kernel)
set_option maxRecDepth 20000 in
theorem gX9_tallyUp_X8_take : GoodIn wsX9_tallyUp (wsV RX9 382 RX8 yX8_take wsX8_take) := goodIn_app (goodIn_of _ (by decide +kernel)) ggX9_tallyUp_X8_take
theorem dX9_tallyUp_0 : decode cX9_tallyUp 0 = .ok (.aload_n 0, 1) := by decide +kernel
theorem dX9_tallyUp_1 : decode cX9_tallyUp 1 = .ok (.getfield 61, 3) := by decide +kernel
theorem dX9_tallyUp_4 : decode cX9_tallyUp 4 = .ok (.invokevirtual 381, 3) := by decide +kernel
theorem dX9_tallyUp_7 : decode cX9_tallyUp 7 = .ok (.iload_n 1, 1) := by decide +kernel
theorem dX9_tallyUp_8 : decode cX9_tallyUp 8 = .ok (.iload_n 2, 1) := by decide +kernel
theorem dX9_tallyUp_9 : decode cX9_tallyUp 9 = .ok (.invokestatic 225, 3) := by decide +kernel
theorem dX9_tallyUp_12 : decode cX9_tallyUp 12 = .ok (.istore_n 3, 1) := by decide +kernel
theorem dX9_tallyUp_13 : decode cX9_tallyUp 13 = .ok (.aload_n 0, 1) := by decide +kernel
theorem dX9_tallyUp_14 : decode cX9_tallyUp 14 = .ok (.getfield 54, 3) := by decide +kernel
theorem dX9_tallyUp_17 : decode cX9_tallyUp 17 = .ok (.getfield 325, 3) := by decide +kernel
theorem dX9_tallyUp_20 : decode cX9_tallyUp 20 = .ok (.iload_n 3, 1) := by decide +kernel
theorem dX9_tallyUp_21 : decode cX9_tallyUp 21 = .ok (.invokevirtual 104, 3) := by decide +kernel
theorem dX9_tallyUp_24 : decode cX9_tallyUp 24 = .ok (.istore 4, 2) := by decide +kernel
theorem dX9_tallyUp_26 : decode cX9_tallyUp 26 = .ok (.aload_n 0, 1) := by decide +kernel
theorem dX9_tallyUp_27 : decode cX9_tallyUp 27 = .ok (.getfield 54, 3) := by decide +kernel
theorem dX9_tallyUp_30 : decode cX9_tallyUp 30 = .ok (.getfield 328, 3) := by decide +kernel
theorem dX9_tallyUp_33 : decode cX9_tallyUp 33 = .ok (.iload_n 3, 1) := by decide +kernel
theorem dX9_tallyUp_34 : decode cX9_tallyUp 34 = .ok (.invokevirtual 104, 3) := by decide +kernel
theorem dX9_tallyUp_37 : decode cX9_tallyUp 37 = .ok (.istore 5, 2) := by decide +kernel
theorem dX9_tallyUp_39 : decode cX9_tallyUp 39 = .ok (.iconst 0, 1) := by decide +kernel
theorem dX9_tallyUp_40 : decode cX9_tallyUp 40 = .ok (.istore 6, 2) := by decide +kernel
theorem dX9_tallyUp_42 : decode cX9_tallyUp 42 = .ok (.iload 6, 2) := by decide +kernel
theorem dX9_tallyUp_44 : decode cX9_tallyUp 44 = .ok (.iload 4, 2) := by decide +kernel
theorem dX9_tallyUp_46 : decode cX9_tallyUp 46 = .ok (.if_icmp .ge 76, 3) := by decide +kernel
theorem dX9_tallyUp_49 : decode cX9_tallyUp 49 = .ok (.aload_n 0, 1) := by decide +kernel
theorem dX9_tallyUp_50 : decode cX9_tallyUp 50 = .ok (.getfield 61, 3) := by decide +kernel
theorem dX9_tallyUp_53 : decode cX9_tallyUp 53 = .ok (.aload_n 0, 1) := by decide +kernel
theorem dX9_tallyUp_54 : decode cX9_tallyUp 54 = .ok (.getfield 54, 3) := by decide +kernel
theorem dX9_tallyUp_57 : decode cX9_tallyUp 57 = .ok (.getfield 333, 3) := by decide +kernel
theorem dX9_tallyUp_60 : decode cX9_tallyUp 60 = .ok (.iload 5, 2) := by decide +kernel
theorem dX9_tallyUp_62 : decode cX9_tallyUp 62 = .ok (.invokevirtual 104, 3) := by decide +kernel
theorem dX9_tallyUp_65 : decode cX9_tallyUp 65 = .ok (.aload_n 0, 1) := by decide +kernel
theorem dX9_tallyUp_66 : decode cX9_tallyUp 66 = .ok (.getfield 40, 3) := by decide +kernel
theorem dX9_tallyUp_69 : decode cX9_tallyUp 69 = .ok (.getfield 318, 3) := by decide +kernel
theorem dX9_tallyUp_72 : decode cX9_tallyUp 72 = .ok (.aload_n 0, 1) := by decide +kernel
theorem dX9_tallyUp_73 : decode cX9_tallyUp 73 = .ok (.getfield 54, 3) := by decide +kernel
theorem dX9_tallyUp_76 : decode cX9_tallyUp 76 = .ok (.getfield 331, 3) := by decide +kernel
theorem dX9_tallyUp_79 : decode cX9_tallyUp 79 = .ok (.iload 5, 2) := by decide +kernel
theorem dX9_tallyUp_81 : decode cX9_tallyUp 81 = .ok (.invokevirtual 104, 3) := by decide +kernel
theorem dX9_tallyUp_84 : decode cX9_tallyUp 84 = .ok (.invokevirtual 135, 3) := by decide +kernel
theorem dX9_tallyUp_87 : decode cX9_tallyUp 87 = .ok (.aload_n 0, 1) := by decide +kernel
theorem dX9_tallyUp_88 : decode cX9_tallyUp 88 = .ok (.getfield 54, 3) := by decide +kernel
theorem dX9_tallyUp_91 : decode cX9_tallyUp 91 = .ok (.getfield 369, 3) := by decide +kernel
theorem dX9_tallyUp_94 : decode cX9_tallyUp 94 = .ok (.iload 5, 2) := by decide +kernel
theorem dX9_tallyUp_96 : decode cX9_tallyUp 96 = .ok (.invokevirtual 135, 3) := by decide +kernel
theorem dX9_tallyUp_99 : decode cX9_tallyUp 99 = .ok (.invokevirtual 382, 3) := by decide +kernel
theorem dX9_tallyUp_102 : decode cX9_tallyUp 102 = .ok (.aload_n 0, 1) := by decide +kernel
theorem dX9_tallyUp_103 : decode cX9_tallyUp 103 = .ok (.getfield 54, 3) := by decide +kernel
theorem dX9_tallyUp_106 : decode cX9_tallyUp 106 = .ok (.getfield 336, 3) := by decide +kernel
theorem dX9_tallyUp_109 : decode cX9_tallyUp 109 = .ok (.iload 5, 2) := by decide +kernel
theorem dX9_tallyUp_111 : decode cX9_tallyUp 111 = .ok (.invokevirtual 104, 3) := by decide +kernel
theorem dX9_tallyUp_114 : decode cX9_tallyUp 114 = .ok (.istore 5, 2) := by decide +kernel
theorem dX9_tallyUp_116 : decode cX9_tallyUp 116 = .ok (.iinc 6 1, 3) := by decide +kernel
theorem dX9_tallyUp_119 : decode cX9_tallyUp 119 = .ok (.goto (-77), 3) := by decide +kernel
theorem dX9_tallyUp_122 : decode cX9_tallyUp 122 = .ok (.return_, 1) := by decide +kernel
set_option maxRecDepth 20000 in
theorem ggX9_wantedBy_X3_isLacking : GoodIn wsX9_wantedBy wsX3_isLacking := goodIn_r _ [10, 11, 12, 13, 14, 15, 16, 17, 93, 94, 95, 96, 97, 98, 99, 100] (by decide +kernel) (by decide +kernel)
set_option maxRecDepth 20000 in
theorem gX9_wantedBy_X3_isLacking : GoodIn wsX9_wantedBy (wsV RX9 203 RX3 yX3_isLacking wsX3_isLacking) := goodIn_app (goodIn_of _ (by decide +kernel)) ggX9_wantedBy_X3_isLacking
set_option maxRecDepth 20000 in
theorem ggX9_wantedBy_X9_tallyUp : GoodIn wsX9_wantedBy wsX9_tallyUp := goodIn_r _ [22, 2, 23, 24, 25, 26, 27, 28, 29, 30, 31, 32, 33, 34, 35, 36, 37, 38, 39, 40, 41, 42, 43, 44, 45, 21, 46, 47, 13, 14, 15, 16, 17, 48, 49, 50, 51, 52, 53, 54, 55, 71, 72, 73, 74, 75, 76, 77, 78, 79, 80, 81, 82, 83, 84, 85, 101, 102, 103, 104, 105, 106, 107, 108, 109, 110, 111, 112, 113, 114, 115, 116, 117, 118, 119, 120, 121, 122, 123, 124, 125, 86, 87, 88, 89, 90, 91, 92, 100] (by decide +kernel) (by decide +kernel)
set_option maxRecDepth 20000 in
theorem gX9_wantedBy_X9_tallyUp : GoodIn wsX9_wantedBy (wsV RX9 245 RX9 yX9_tallyUp wsX9_tallyUp) := goodIn_app (goodIn_of _ (by decide +kernel)) ggX9_wantedBy_X9_tallyUp
set_option maxRecDepth 20000 in
theorem ggX9_wantedBy_X5_is : GoodIn wsX9_wantedBy wsX5_is := goodIn_r _ [51, 17, 100] (by decide +kernel) (by decide +kernel)
set_option maxRecDepth 20000 in
theorem gX9_wantedBy_X5_is : GoodIn wsX9_wantedBy (wsV RX9 135 RX5 yX5_is wsX5_is) := goodIn_app (goodIn_of _ (by decide +kernel)) ggX9_wantedBy_X5_is
set_option maxRecDepth 20000 in
theorem ggX9_wantedBy_X8_lackingAsPlain : GoodIn wsX9_wantedBy wsX8_lackingAsPlain := goodIn_r _ [59, 39, 42, 40, 41, 60, 61, 62, 35, 63, 64, 21, 65, 86, 87, 88, 89, 90, 91, 92] (by decide +kernel) (by decide +kernel)
set_option maxRecDepth 20000 in
theorem gX9_wantedBy_X8_lackingAsPlain : GoodIn wsX9_wantedBy (wsV RX9 297 RX8 yX8_lackingAsPlain wsX8_lackingAsPlain) := goodIn_app (goodIn_of _ (by decide +kernel)) ggX9_wantedBy_X8_lackingAsPlain
set_option maxRecDepth 20000 in
theorem ggX9_wantedBy_X3_isAppealed : GoodIn wsX9_wantedBy wsX3_isAppealed := goodIn_r _ [69, 70, 12, 13, 14, 15, 16, 17, 93, 94, 95, 96, 97, 98, 99, 100] (by decide +kernel) (by decide +kernel)
set_option maxRecDepth 20000 in
theorem gX9_wantedBy_X3_isAppealed : GoodIn wsX9_wantedBy (wsV RX9 210 RX3 yX3_isAppealed wsX3_isAppealed) := goodIn_app (goodIn_of _ (by decide +kernel)) ggX9_wantedBy_X3_isAppealed
theorem dX9_wantedBy_0 : decode cX9_wantedBy 0 = .ok (.aload_n 0, 1) := by decide +kernel
theorem dX9_wantedBy_1 : decode cX9_wantedBy 1 = .ok (.getfield 33, 3) := by decide +kernel
theorem dX9_wantedBy_4 : decode cX9_wantedBy 4 = .ok (.iload_n 1, 1) := by decide +kernel
theorem dX9_wantedBy_5 : decode cX9_wantedBy 5 = .ok (.iload_n 2, 1) := by decide +kernel
theorem dX9_wantedBy_6 : decode cX9_wantedBy 6 = .ok (.invokevirtual 203, 3) := by decide +kernel
theorem dX9_wantedBy_9 : decode cX9_wantedBy 9 = .ok (.ifCond .eq 5, 3) := by decide +kernel
theorem dX9_wantedBy_12 : decode cX9_wantedBy 12 = .ok (.iconst 0, 1) := by decide +kernel
theorem dX9_wantedBy_13 : decode cX9_wantedBy 13 = .ok (.ireturn, 1) := by decide +kernel
theorem dX9_wantedBy_14 : decode cX9_wantedBy 14 = .ok (.aload_n 0, 1) := by decide +kernel
theorem dX9_wantedBy_15 : decode cX9_wantedBy 15 = .ok (.iload_n 1, 1) := by decide +kernel
theorem dX9_wantedBy_16 : decode cX9_wantedBy 16 = .ok (.iload_n 2, 1) := by decide +kernel
theorem dX9_wantedBy_17 : decode cX9_wantedBy 17 = .ok (.invokevirtual 245, 3) := by decide +kernel
theorem dX9_wantedBy_20 : decode cX9_wantedBy 20 = .ok (.aload_n 0, 1) := by decide +kernel
theorem dX9_wantedBy_21 : decode cX9_wantedBy 21 = .ok (.getfield 61, 3) := by decide +kernel
theorem dX9_wantedBy_24 : decode cX9_wantedBy 24 = .ok (.aload_n 0, 1) := by decide +kernel
theorem dX9_wantedBy_25 : decode cX9_wantedBy 25 = .ok (.getfield 70, 3) := by decide +kernel
theorem dX9_wantedBy_28 : decode cX9_wantedBy 28 = .ok (.iload_n 2, 1) := by decide +kernel
theorem dX9_wantedBy_29 : decode cX9_wantedBy 29 = .ok (.invokevirtual 135, 3) := by decide +kernel
theorem dX9_wantedBy_32 : decode cX9_wantedBy 32 = .ok (.aload_n 0, 1) := by decide +kernel
theorem dX9_wantedBy_33 : decode cX9_wantedBy 33 = .ok (.getfield 77, 3) := by decide +kernel
theorem dX9_wantedBy_36 : decode cX9_wantedBy 36 = .ok (.invokevirtual 297, 3) := by decide +kernel
theorem dX9_wantedBy_39 : decode cX9_wantedBy 39 = .ok (.istore_n 3, 1) := by decide +kernel
theorem dX9_wantedBy_40 : decode cX9_wantedBy 40 = .ok (.iload_n 3, 1) := by decide +kernel
theorem dX9_wantedBy_41 : decode cX9_wantedBy 41 = .ok (.ifCond .le 5, 3) := by decide +kernel
theorem dX9_wantedBy_44 : decode cX9_wantedBy 44 = .ok (.iload_n 3, 1) := by decide +kernel
theorem dX9_wantedBy_45 : decode cX9_wantedBy 45 = .ok (.ireturn, 1) := by decide +kernel
theorem dX9_wantedBy_46 : decode cX9_wantedBy 46 = .ok (.aload_n 0, 1) := by decide +kernel
theorem dX9_wantedBy_47 : decode cX9_wantedBy 47 = .ok (.getfield 33, 3) := by decide +kernel
theorem dX9_wantedBy_50 : decode cX9_wantedBy 50 = .ok (.iload_n 1, 1) := by decide +kernel
theorem dX9_wantedBy_51 : decode cX9_wantedBy 51 = .ok (.iload_n 2, 1) := by decide +kernel
theorem dX9_wantedBy_52 : decode cX9_wantedBy 52 = .ok (.invokevirtual 210, 3) := by decide +kernel
theorem dX9_wantedBy_55 : decode cX9_wantedBy 55 = .ok (.ifCond .eq 18, 3) := by decide +kernel
theorem dX9_wantedBy_58 : decode cX9_wantedBy 58 = .ok (.aload_n 0, 1) := by decide +kernel
theorem dX9_wantedBy_59 : decode cX9_wantedBy 59 = .ok (.getfield 61, 3) := by decide +kernel
theorem dX9_wantedBy_62 : decode cX9_wantedBy 62 = .ok (.getfield 386, 3) := by decide +kernel
theorem dX9_wantedBy_65 : decode cX9_wantedBy 65 = .ok (.iconst (-1), 1) := by decide +kernel
theorem dX9_wantedBy_66 : decode cX9_wantedBy 66 = .ok (.if_icmp .ne 7, 3) := by decide +kernel
theorem dX9_wantedBy_69 : decode cX9_wantedBy 69 = .ok (.iconst 1, 1) := by decide +kernel
theorem dX9_wantedBy_70 : decode cX9_wantedBy 70 = .ok (.goto 4, 3) := by decide +kernel
theorem dX9_wantedBy_73 : decode cX9_wantedBy 73 = .ok (.iconst 0, 1) := by decide +kernel
theorem dX9_wantedBy_74 : decode cX9_wantedBy 74 = .ok (.ireturn, 1) := by decide +kernel
set_option maxRecDepth 20000 in
theorem ggX9_markNow_X3_isLacking : GoodIn wsX9_markNow wsX3_isLacking := goodIn_r _ [9, 10, 11, 12, 13, 14, 15, 16, 84, 85, 86, 87, 88, 89, 90, 91] (by decide +kernel) (by decide +kernel)
set_option maxRecDepth 20000 in
theorem gX9_markNow_X3_isLacking : GoodIn wsX9_markNow (wsV RX9 203 RX3 yX3_isLacking wsX3_isLacking) := goodIn_app (goodIn_of _ (by decide +kernel)) ggX9_markNow_X3_isLacking
set_option maxRecDepth 20000 in
theorem ggX9_markNow_X9_tallyUp : GoodIn wsX9_markNow wsX9_tallyUp := goodIn_r _ [21, 2, 22, 23, 24, 25, 26, 27, 28, 29, 30, 31, 32, 33, 34, 35, 36, 37, 38, 39, 40, 41, 42, 43, 44, 20, 45, 46, 12, 13, 14, 15, 16, 47, 48, 49, 50, 51, 52, 53, 54, 69, 70, 71, 72, 73, 74, 75, 76, 77, 78, 79, 80, 81, 82, 83, 92, 93, 94, 95, 96, 97, 98, 99, 100, 101, 102, 103, 104, 105, 106, 107, 108, 109, 110, 111, 112, 113, 114, 115, 116, 117, 118, 119, 120, 121, 122, 123, 91] (by decide +kernel) (by decide +kernel)
set_option maxRecDepth 20000 in
theorem gX9_markNow_X9_tallyUp : GoodIn wsX9_markNow (wsV RX9 245 RX9 yX9_tallyUp wsX9_tallyUp) := goodIn_app (goodIn_of _ (by decide +kernel)) ggX9_markNow_X9_tallyUp
set_option maxRecDepth 20000 in
theorem ggX9_markNow_X5_is : GoodIn wsX9_markNow wsX5_is := goodIn_r _ [50, 16, 91] (by decide +kernel) (by decide +kernel)
set_option maxRecDepth 20000 in
theorem gX9_markNow_X5_is : GoodIn wsX9_markNow (wsV RX9 135 RX5 yX5_is wsX5_is) := goodIn_app (goodIn_of _ (by decide +kernel)) ggX9_markNow_X5_is
set_option maxRecDepth 20000 in
theorem ggX9_markNow_X8_outcome : GoodIn wsX9_markNow wsX8_outcome := goodIn_r _ [58, 39, 40, 41, 42, 59, 60, 61, 34, 62, 38, 63, 64, 65, 66, 67, 20, 68, 117, 118, 119, 120, 121, 122, 123] (by decide +kernel) (by decide +kernel)
set_option maxRecDepth 20000 in
theorem gX9_markNow_X8_outcome : GoodIn wsX9_markNow (wsV RX9 389 RX8 yX8_outcome wsX8_outcome) := goodIn_app (goodIn_of _ (by decide +kernel)) ggX9_markNow_X8_outcome
theorem dX9_markNow_0 : decode cX9_markNow 0 = .ok (.aload_n 0, 1) := by decide +kernel
theorem dX9_markNow_1 : decode cX9_markNow 1 = .ok (.getfield 33, 3) := by decide +kernel
theorem dX9_markNow_4 : decode cX9_markNow 4 = .ok (.iload_n 1, 1) := by decide +kernel
theorem dX9_markNow_5 : decode cX9_markNow 5 = .ok (.iload_n 2, 1) := by decide +kernel
theorem dX9_markNow_6 : decode cX9_markNow 6 = .ok (.invokevirtual 203, 3) := by decide +kernel
theorem dX9_markNow_9 : decode cX9_markNow 9 = .ok (.ifCond .eq 5, 3) := by decide +kernel
theorem dX9_markNow_12 : decode cX9_markNow 12 = .ok (.iconst 0, 1) := by decide +kernel
theorem dX9_markNow_13 : decode cX9_markNow 13 = .ok (.ireturn, 1) := by decide +kernel
theorem dX9_markNow_14 : decode cX9_markNow 14 = .ok (.aload_n 0, 1) := by decide +kernel
theorem dX9_markNow_15 : decode cX9_markNow 15 = .ok (.iload_n 1, 1) := by decide +kernel
theorem dX9_markNow_16 : decode cX9_markNow 16 = .ok (.iload_n 2, 1) := by decide +kernel
theorem dX9_markNow_17 : decode cX9_markNow 17 = .ok (.invokevirtual 245, 3) := by decide +kernel
theorem dX9_markNow_20 : decode cX9_markNow 20 = .ok (.aload_n 0, 1) := by decide +kernel
theorem dX9_markNow_21 : decode cX9_markNow 21 = .ok (.getfield 61, 3) := by decide +kernel
theorem dX9_markNow_24 : decode cX9_markNow 24 = .ok (.aload_n 0, 1) := by decide +kernel
theorem dX9_markNow_25 : decode cX9_markNow 25 = .ok (.getfield 70, 3) := by decide +kernel
theorem dX9_markNow_28 : decode cX9_markNow 28 = .ok (.iload_n 2, 1) := by decide +kernel
theorem dX9_markNow_29 : decode cX9_markNow 29 = .ok (.invokevirtual 135, 3) := by decide +kernel
theorem dX9_markNow_32 : decode cX9_markNow 32 = .ok (.aload_n 0, 1) := by decide +kernel
theorem dX9_markNow_33 : decode cX9_markNow 33 = .ok (.getfield 77, 3) := by decide +kernel
theorem dX9_markNow_36 : decode cX9_markNow 36 = .ok (.invokevirtual 389, 3) := by decide +kernel
theorem dX9_markNow_39 : decode cX9_markNow 39 = .ok (.ireturn, 1) := by decide +kernel
set_option maxRecDepth 20000 in
theorem ggX9_doubleFromLog_X9_findReading : GoodIn wsX9_doubleFromLog wsX9_findReading := goodIn_r _ [6, 7, 8, 9, 10, 11, 12, 13, 14, 15, 16, 17, 18, 19, 20, 21, 22, 23, 24, 25, 26, 5, 27, 28, 29, 30, 31, 32, 33, 34, 35, 36, 37, 38, 84, 85, 86, 87, 88, 89, 90, 91, 92, 93, 94, 95, 96, 97, 98, 99, 100, 101, 102, 103, 104, 105, 106, 107, 108, 109, 110, 111, 112, 113, 114, 115, 116, 117, 118, 119, 120, 121, 122, 123, 124, 125, 126, 127, 128, 129, 130, 131, 132] (by decide +kernel) (by decide +kernel)
set_option maxRecDepth 20000 in
theorem gX9_doubleFromLog_X9_findReading : GoodIn wsX9_doubleFromLog (wsV RX9 231 RX9 yX9_findReading wsX9_findReading) := goodIn_app (goodIn_of _ (by decide +kernel)) ggX9_doubleFromLog_X9_findReading
set_option maxRecDepth 20000 in
theorem ggX9_doubleFromLog_X9_markFound : GoodIn wsX9_doubleFromLog wsX9_markFound := goodIn_r _ [42, 7, 8, 29, 9, 43, 14, 15, 16, 17, 18, 19, 44, 45, 46, 34, 47, 37, 38, 48, 49, 50, 51, 52, 53, 54, 55, 56, 57, 58, 59, 60, 61, 62, 63, 64, 65, 66, 67, 68, 69, 70, 71, 72, 73, 74, 75, 76, 77, 78, 79, 80, 84, 85, 86, 87, 88, 89, 90, 91, 92, 93, 94, 95, 96, 97, 98, 99, 100, 101, 102, 103, 104, 105, 106, 107, 108, 109, 110, 124, 125, 126, 127, 128, 129, 130, 131, 132] (by decide +kernel) (by decide +kernel)
set_option maxRecDepth 20000 in
theorem gX9_doubleFromLog_X9_markFound : GoodIn wsX9_doubleFromLog (wsV RX9 235 RX9 yX9_markFound wsX9_markFound) := goodIn_app (goodIn_of _ (by decide +kernel)) ggX9_doubleFromLog_X9_markFound
set_option maxRecDepth 20000 in
theorem ggX9_doubleFromLog_X9_areApart : GoodIn wsX9_doubleFromLog wsX9_areApart := goodIn_r _ [83] (by decide +kernel) (by decide +kernel)
set_option maxRecDepth 20000 in
theorem gX9_doubleFromLog_X9_areApart : GoodIn wsX9_doubleFromLog (va_wsS RX9 238 yX9_areApart wsX9_areApart) := goodIn_app (goodIn_of _ (by decide +kernel)) ggX9_doubleFromLog_X9_areApart
theorem dX9_doubleFromLog_0 : decode cX9_doubleFromLog 0 = .ok (.aload_n 0, 1) := by decide +kernel
theorem dX9_doubleFromLog_1 : decode cX9_doubleFromLog 1 = .ok (.iload_n 1, 1) := by decide +kernel
theorem dX9_doubleFromLog_2 : decode cX9_doubleFromLog 2 = .ok (.iconst 0, 1) := by decide +kernel
theorem dX9_doubleFromLog_3 : decode cX9_doubleFromLog 3 = .ok (.iconst 0, 1) := by decide +kernel
theorem dX9_doubleFromLog_4 : decode cX9_doubleFromLog 4 = .ok (.iconst 0, 1) := by decide +kernel
theorem dX9_doubleFromLog_5 : decode cX9_doubleFromLog 5 = .ok (.invokevirtual 231, 3) := by decide +kernel
theorem dX9_doubleFromLog_8 : decode cX9_doubleFromLog 8 = .ok (.istore_n 2, 1) := by decide +kernel
theorem dX9_doubleFromLog_9 : decode cX9_doubleFromLog 9 = .ok (.aload_n 0, 1) := by decide +kernel
theorem dX9_doubleFromLog_10 : decode cX9_doubleFromLog 10 = .ok (.iload_n 1, 1) := by decide +kernel
theorem dX9_doubleFromLog_11 : decode cX9_doubleFromLog 11 = .ok (.iload_n 2, 1) := by decide +kernel
theorem dX9_doubleFromLog_12 : decode cX9_doubleFromLog 12 = .ok (.iconst 1, 1) := by decide +kernel
theorem dX9_doubleFromLog_13 : decode cX9_doubleFromLog 13 = .ok (.iadd, 1) := by decide +kernel
theorem dX9_doubleFromLog_14 : decode cX9_doubleFromLog 14 = .ok (.iconst 0, 1) := by decide +kernel
theorem dX9_doubleFromLog_15 : decode cX9_doubleFromLog 15 = .ok (.iconst 0, 1) := by decide +kernel
theorem dX9_doubleFromLog_16 : decode cX9_doubleFromLog 16 = .ok (.invokevirtual 231, 3) := by decide +kernel
theorem dX9_doubleFromLog_19 : decode cX9_doubleFromLog 19 = .ok (.istore_n 3, 1) := by decide +kernel
theorem dX9_doubleFromLog_20 : decode cX9_doubleFromLog 20 = .ok (.aload_n 0, 1) := by decide +kernel
theorem dX9_doubleFromLog_21 : decode cX9_doubleFromLog 21 = .ok (.iload_n 2, 1) := by decide +kernel
theorem dX9_doubleFromLog_22 : decode cX9_doubleFromLog 22 = .ok (.invokevirtual 235, 3) := by decide +kernel
theorem dX9_doubleFromLog_25 : decode cX9_doubleFromLog 25 = .ok (.istore 4, 2) := by decide +kernel
theorem dX9_doubleFromLog_27 : decode cX9_doubleFromLog 27 = .ok (.aload_n 0, 1) := by decide +kernel
theorem dX9_doubleFromLog_28 : decode cX9_doubleFromLog 28 = .ok (.iload_n 3, 1) := by decide +kernel
theorem dX9_doubleFromLog_29 : decode cX9_doubleFromLog 29 = .ok (.invokevirtual 235, 3) := by decide +kernel
theorem dX9_doubleFromLog_32 : decode cX9_doubleFromLog 32 = .ok (.istore 5, 2) := by decide +kernel
theorem dX9_doubleFromLog_34 : decode cX9_doubleFromLog 34 = .ok (.iload 4, 2) := by decide +kernel
theorem dX9_doubleFromLog_36 : decode cX9_doubleFromLog 36 = .ok (.iconst (-1), 1) := by decide +kernel
theorem dX9_doubleFromLog_37 : decode cX9_doubleFromLog 37 = .ok (.if_icmp .eq 9, 3) := by decide +kernel
theorem dX9_doubleFromLog_40 : decode cX9_doubleFromLog 40 = .ok (.iload 5, 2) := by decide +kernel
theorem dX9_doubleFromLog_42 : decode cX9_doubleFromLog 42 = .ok (.iconst (-1), 1) := by decide +kernel
theorem dX9_doubleFromLog_43 : decode cX9_doubleFromLog 43 = .ok (.if_icmp .ne 5, 3) := by decide +kernel
theorem dX9_doubleFromLog_46 : decode cX9_doubleFromLog 46 = .ok (.iconst (-1), 1) := by decide +kernel
theorem dX9_doubleFromLog_47 : decode cX9_doubleFromLog 47 = .ok (.ireturn, 1) := by decide +kernel
theorem dX9_doubleFromLog_48 : decode cX9_doubleFromLog 48 = .ok (.iload 4, 2) := by decide +kernel
theorem dX9_doubleFromLog_50 : decode cX9_doubleFromLog 50 = .ok (.iload 5, 2) := by decide +kernel
theorem dX9_doubleFromLog_52 : decode cX9_doubleFromLog 52 = .ok (.aload_n 0, 1) := by decide +kernel
theorem dX9_doubleFromLog_53 : decode cX9_doubleFromLog 53 = .ok (.getfield 77, 3) := by decide +kernel
theorem dX9_doubleFromLog_56 : decode cX9_doubleFromLog 56 = .ok (.invokestatic 238, 3) := by decide +kernel
theorem dX9_doubleFromLog_59 : decode cX9_doubleFromLog 59 = .ok (.ifCond .ne 13, 3) := by decide +kernel
theorem dX9_doubleFromLog_62 : decode cX9_doubleFromLog 62 = .ok (.iload 4, 2) := by decide +kernel
theorem dX9_doubleFromLog_64 : decode cX9_doubleFromLog 64 = .ok (.iload 5, 2) := by decide +kernel
theorem dX9_doubleFromLog_66 : decode cX9_doubleFromLog 66 = .ok (.iadd, 1) := by decide +kernel
theorem dX9_doubleFromLog_67 : decode cX9_doubleFromLog 67 = .ok (.iconst 1, 1) := by decide +kernel
theorem dX9_doubleFromLog_68 : decode cX9_doubleFromLog 68 = .ok (.iadd, 1) := by decide +kernel
theorem dX9_doubleFromLog_69 : decode cX9_doubleFromLog 69 = .ok (.iconst 2, 1) := by decide +kernel
theorem dX9_doubleFromLog_70 : decode cX9_doubleFromLog 70 = .ok (.idiv, 1) := by decide +kernel
theorem dX9_doubleFromLog_71 : decode cX9_doubleFromLog 71 = .ok (.ireturn, 1) := by decide +kernel
theorem dX9_doubleFromLog_72 : decode cX9_doubleFromLog 72 = .ok (.aload_n 0, 1) := by decide +kernel
theorem dX9_doubleFromLog_73 : decode cX9_doubleFromLog 73 = .ok (.aload_n 0, 1) := by decide +kernel
theorem dX9_doubleFromLog_74 : decode cX9_doubleFromLog 74 = .ok (.iload_n 1, 1) := by decide +kernel
theorem dX9_doubleFromLog_75 : decode cX9_doubleFromLog 75 = .ok (.iload_n 3, 1) := by decide +kernel
theorem dX9_doubleFromLog_76 : decode cX9_doubleFromLog 76 = .ok (.iconst 1, 1) := by decide +kernel
theorem dX9_doubleFromLog_77 : decode cX9_doubleFromLog 77 = .ok (.iadd, 1) := by decide +kernel
theorem dX9_doubleFromLog_78 : decode cX9_doubleFromLog 78 = .ok (.iconst 0, 1) := by decide +kernel
theorem dX9_doubleFromLog_79 : decode cX9_doubleFromLog 79 = .ok (.iconst 1, 1) := by decide +kernel
theorem dX9_doubleFromLog_80 : decode cX9_doubleFromLog 80 = .ok (.invokevirtual 231, 3) := by decide +kernel
theorem dX9_doubleFromLog_83 : decode cX9_doubleFromLog 83 = .ok (.invokevirtual 235, 3) := by decide +kernel
theorem dX9_doubleFromLog_86 : decode cX9_doubleFromLog 86 = .ok (.ireturn, 1) := by decide +kernel
set_option maxRecDepth 20000 in
theorem ggX9_findReading_X5_get : GoodIn wsX9_findReading wsX5_get := goodIn_r _ [12, 13, 74] (by decide +kernel) (by decide +kernel)
set_option maxRecDepth 20000 in
theorem gX9_findReading_X5_get : GoodIn wsX9_findReading (wsV RX9 104 RX5 yX5_get wsX5_get) := goodIn_app (goodIn_of _ (by decide +kernel)) ggX9_findReading_X5_get
set_option maxRecDepth 20000 in
theorem ggX9_findReading_X5_is : GoodIn wsX9_findReading wsX5_is := goodIn_r _ [17, 13, 74] (by decide +kernel) (by decide +kernel)
set_option maxRecDepth 20000 in
theorem gX9_findReading_X5_is : GoodIn wsX9_findReading (wsV RX9 135 RX5 yX5_is wsX5_is) := goodIn_app (goodIn_of _ (by decide +kernel)) ggX9_findReading_X5_is
set_option maxRecDepth 20000 in
theorem ggX9_findReading_X9_isCounting : GoodIn wsX9_findReading wsX9_isCounting := goodIn_r _ [22, 1, 23, 24, 25, 14, 15, 16, 11, 17, 13, 26, 27, 28, 29, 30, 31, 32, 33, 9, 10, 12, 8, 34, 35, 36, 37, 38, 39, 40, 41, 42, 43, 44, 45, 46, 47, 48, 49, 50, 51, 52, 53, 54, 55, 56, 57, 58, 59, 60, 74, 75, 76, 77, 78, 79, 80, 81, 82] (by decide +kernel) (by decide +kernel)
set_option maxRecDepth 20000 in
theorem gX9_findReading_X9_isCounting : GoodIn wsX9_findReading (wsV RX9 378 RX9 yX9_isCounting wsX9_isCounting) := goodIn_app (goodIn_of _ (by decide +kernel)) ggX9_findReading_X9_isCounting
theorem dX9_findReading_0 : decode cX9_findReading 0 = .ok (.iload_n 2, 1) := by decide +kernel
theorem dX9_findReading_1 : decode cX9_findReading 1 = .ok (.istore 5, 2) := by decide +kernel
theorem dX9_findReading_3 : decode cX9_findReading 3 = .ok (.iload 5, 2) := by decide +kernel
theorem dX9_findReading_5 : decode cX9_findReading 5 = .ok (.aload_n 0, 1) := by decide +kernel
theorem dX9_findReading_6 : decode cX9_findReading 6 = .ok (.getfield 54, 3) := by decide +kernel
theorem dX9_findReading_9 : decode cX9_findReading 9 = .ok (.getfield 164, 3) := by decide +kernel
theorem dX9_findReading_12 : decode cX9_findReading 12 = .ok (.if_icmp .ge 92, 3) := by decide +kernel
theorem dX9_findReading_15 : decode cX9_findReading 15 = .ok (.aload_n 0, 1) := by decide +kernel
theorem dX9_findReading_16 : decode cX9_findReading 16 = .ok (.getfield 54, 3) := by decide +kernel
theorem dX9_findReading_19 : decode cX9_findReading 19 = .ok (.getfield 375, 3) := by decide +kernel
theorem dX9_findReading_22 : decode cX9_findReading 22 = .ok (.iload 5, 2) := by decide +kernel
theorem dX9_findReading_24 : decode cX9_findReading 24 = .ok (.invokevirtual 104, 3) := by decide +kernel
theorem dX9_findReading_27 : decode cX9_findReading 27 = .ok (.iload_n 1, 1) := by decide +kernel
theorem dX9_findReading_28 : decode cX9_findReading 28 = .ok (.if_icmp .ne 70, 3) := by decide +kernel
theorem dX9_findReading_31 : decode cX9_findReading 31 = .ok (.aload_n 0, 1) := by decide +kernel
theorem dX9_findReading_32 : decode cX9_findReading 32 = .ok (.getfield 54, 3) := by decide +kernel
theorem dX9_findReading_35 : decode cX9_findReading 35 = .ok (.getfield 369, 3) := by decide +kernel
theorem dX9_findReading_38 : decode cX9_findReading 38 = .ok (.iload 5, 2) := by decide +kernel
theorem dX9_findReading_40 : decode cX9_findReading 40 = .ok (.invokevirtual 135, 3) := by decide +kernel
theorem dX9_findReading_43 : decode cX9_findReading 43 = .ok (.iload_n 3, 1) := by decide +kernel
theorem dX9_findReading_44 : decode cX9_findReading 44 = .ok (.if_icmp .eq 6, 3) := by decide +kernel
theorem dX9_findReading_47 : decode cX9_findReading 47 = .ok (.goto 51, 3) := by decide +kernel
theorem dX9_findReading_50 : decode cX9_findReading 50 = .ok (.iload 4, 2) := by decide +kernel
theorem dX9_findReading_52 : decode cX9_findReading 52 = .ok (.ifCond .eq 31, 3) := by decide +kernel
theorem dX9_findReading_55 : decode cX9_findReading 55 = .ok (.aload_n 0, 1) := by decide +kernel
theorem dX9_findReading_56 : decode cX9_findReading 56 = .ok (.getfield 40, 3) := by decide +kernel
theorem dX9_findReading_59 : decode cX9_findReading 59 = .ok (.getfield 318, 3) := by decide +kernel
theorem dX9_findReading_62 : decode cX9_findReading 62 = .ok (.aload_n 0, 1) := by decide +kernel
theorem dX9_findReading_63 : decode cX9_findReading 63 = .ok (.getfield 54, 3) := by decide +kernel
theorem dX9_findReading_66 : decode cX9_findReading 66 = .ok (.getfield 331, 3) := by decide +kernel
theorem dX9_findReading_69 : decode cX9_findReading 69 = .ok (.iload 5, 2) := by decide +kernel
theorem dX9_findReading_71 : decode cX9_findReading 71 = .ok (.invokevirtual 104, 3) := by decide +kernel
theorem dX9_findReading_74 : decode cX9_findReading 74 = .ok (.invokevirtual 135, 3) := by decide +kernel
theorem dX9_findReading_77 : decode cX9_findReading 77 = .ok (.ifCond .ne 6, 3) := by decide +kernel
theorem dX9_findReading_80 : decode cX9_findReading 80 = .ok (.goto 18, 3) := by decide +kernel
theorem dX9_findReading_83 : decode cX9_findReading 83 = .ok (.aload_n 0, 1) := by decide +kernel
theorem dX9_findReading_84 : decode cX9_findReading 84 = .ok (.iload 5, 2) := by decide +kernel
theorem dX9_findReading_86 : decode cX9_findReading 86 = .ok (.iload_n 1, 1) := by decide +kernel
theorem dX9_findReading_87 : decode cX9_findReading 87 = .ok (.iconst 4, 1) := by decide +kernel
theorem dX9_findReading_88 : decode cX9_findReading 88 = .ok (.irem, 1) := by decide +kernel
theorem dX9_findReading_89 : decode cX9_findReading 89 = .ok (.invokevirtual 378, 3) := by decide +kernel
theorem dX9_findReading_92 : decode cX9_findReading 92 = .ok (.ifCond .eq 6, 3) := by decide +kernel
theorem dX9_findReading_95 : decode cX9_findReading 95 = .ok (.iload 5, 2) := by decide +kernel
theorem dX9_findReading_97 : decode cX9_findReading 97 = .ok (.ireturn, 1) := by decide +kernel
theorem dX9_findReading_98 : decode cX9_findReading 98 = .ok (.iinc 5 1, 3) := by decide +kernel
theorem dX9_findReading_101 : decode cX9_findReading 101 = .ok (.goto (-98), 3) := by decide +kernel
theorem dX9_findReading_104 : decode cX9_findReading 104 = .ok (.aload_n 0, 1) := by decide +kernel
theorem dX9_findReading_105 : decode cX9_findReading 105 = .ok (.getfield 54, 3) := by decide +kernel
theorem dX9_findReading_108 : decode cX9_findReading 108 = .ok (.getfield 164, 3) := by decide +kernel
theorem dX9_findReading_111 : decode cX9_findReading 111 = .ok (.ireturn, 1) := by decide +kernel
set_option maxRecDepth 20000 in
theorem ggX9_markFound_X5_get : GoodIn wsX9_markFound wsX5_get := goodIn_r _ [10, 11, 79] (by decide +kernel) (by decide +kernel)
set_option maxRecDepth 20000 in
theorem gX9_markFound_X5_get : GoodIn wsX9_markFound (wsV RX9 104 RX5 yX5_get wsX5_get) := goodIn_app (goodIn_of _ (by decide +kernel)) ggX9_markFound_X5_get
set_option maxRecDepth 20000 in
theorem ggX9_markFound_X6_markByLatest : GoodIn wsX9_markFound wsX6_markByLatest := goodIn_r _ [16, 17, 18, 7, 8, 9, 10, 11, 19, 20, 21, 15, 22, 23, 24, 25, 26, 27, 28, 29, 30, 31, 32, 33, 34, 35, 36, 37, 38, 39, 40, 41, 42, 43, 44, 45, 46, 47, 48, 49, 50, 51, 80, 81, 82, 83, 84, 85, 86, 87, 79] (by decide +kernel) (by decide +kernel)
set_option maxRecDepth 20000 in
theorem gX9_markFound_X6_markByLatest : GoodIn wsX9_markFound (wsV RX9 342 RX6 yX6_markByLatest wsX6_markByLatest) := goodIn_app (goodIn_of _ (by decide +kernel)) ggX9_markFound_X6_markByLatest
theorem dX9_markFound_0 : decode cX9_markFound 0 = .ok (.iload_n 1, 1) := by decide +kernel
theorem dX9_markFound_1 : decode cX9_markFound 1 = .ok (.aload_n 0, 1) := by decide +kernel
theorem dX9_markFound_2 : decode cX9_markFound 2 = .ok (.getfield 54, 3) := by decide +kernel
theorem dX9_markFound_5 : decode cX9_markFound 5 = .ok (.getfield 164, 3) := by decide +kernel
theorem dX9_markFound_8 : decode cX9_markFound 8 = .ok (.if_icmp .ge 37, 3) := by decide +kernel
theorem dX9_markFound_11 : decode cX9_markFound 11 = .ok (.aload_n 0, 1) := by decide +kernel
theorem dX9_markFound_12 : decode cX9_markFound 12 = .ok (.getfield 26, 3) := by decide +kernel
theorem dX9_markFound_15 : decode cX9_markFound 15 = .ok (.aload_n 0, 1) := by decide +kernel
theorem dX9_markFound_16 : decode cX9_markFound 16 = .ok (.getfield 54, 3) := by decide +kernel
theorem dX9_markFound_19 : decode cX9_markFound 19 = .ok (.getfield 375, 3) := by decide +kernel
theorem dX9_markFound_22 : decode cX9_markFound 22 = .ok (.iload_n 1, 1) := by decide +kernel
theorem dX9_markFound_23 : decode cX9_markFound 23 = .ok (.invokevirtual 104, 3) := by decide +kernel
theorem dX9_markFound_26 : decode cX9_markFound 26 = .ok (.iconst 4, 1) := by decide +kernel
theorem dX9_markFound_27 : decode cX9_markFound 27 = .ok (.irem, 1) := by decide +kernel
theorem dX9_markFound_28 : decode cX9_markFound 28 = .ok (.aload_n 0, 1) := by decide +kernel
theorem dX9_markFound_29 : decode cX9_markFound 29 = .ok (.getfield 54, 3) := by decide +kernel
theorem dX9_markFound_32 : decode cX9_markFound 32 = .ok (.getfield 365, 3) := by decide +kernel
theorem dX9_markFound_35 : decode cX9_markFound 35 = .ok (.iload_n 1, 1) := by decide +kernel
theorem dX9_markFound_36 : decode cX9_markFound 36 = .ok (.invokevirtual 104, 3) := by decide +kernel
theorem dX9_markFound_39 : decode cX9_markFound 39 = .ok (.invokevirtual 342, 3) := by decide +kernel
theorem dX9_markFound_42 : decode cX9_markFound 42 = .ok (.goto 4, 3) := by decide +kernel
theorem dX9_markFound_45 : decode cX9_markFound 45 = .ok (.iconst (-1), 1) := by decide +kernel
theorem dX9_markFound_46 : decode cX9_markFound 46 = .ok (.ireturn, 1) := by decide +kernel
set_option maxRecDepth 20000 in
theorem ggX9_totalNow_X9_markNow : GoodIn wsX9_totalNow wsX9_markNow := goodIn_r _ [11, 5, 12, 13, 14, 15, 16, 17, 18, 19, 20, 21, 22, 23, 24, 25, 26, 27, 28, 29, 10, 30, 31, 32, 33, 34, 35, 36, 37, 38, 39, 40, 41, 42, 43, 44, 45, 46, 47, 48, 49, 50, 51, 52, 53, 54, 55, 56, 57, 58, 59, 60, 61, 62, 63, 64, 65, 66, 67, 68, 69, 70, 71, 72, 73, 74, 75, 76, 77, 78, 79, 80, 81, 82, 83, 84, 85, 86, 87, 88, 89, 90, 91, 92, 93, 94, 95, 96, 97, 98, 99, 100, 101, 102, 103, 104, 105, 106, 107, 108, 109, 110, 111, 112, 113, 114, 115, 116, 117, 118, 119, 120, 121, 122, 123, 124, 125, 126, 127, 128, 129, 130, 131, 132] (by decide +kernel) (by decide +kernel)
set_option maxRecDepth 20000 in
theorem gX9_totalNow_X9_markNow : GoodIn wsX9_totalNow (wsV RX9 207 RX9 yX9_markNow wsX9_markNow) := goodIn_app (goodIn_of _ (by decide +kernel)) ggX9_totalNow_X9_markNow
set_option maxRecDepth 20000 in
theorem ggX9_totalNow_X5_get : GoodIn wsX9_totalNow wsX5_get := goodIn_r _ [25, 26, 100] (by decide +kernel) (by decide +kernel)
set_option maxRecDepth 20000 in
theorem gX9_totalNow_X5_get : GoodIn wsX9_totalNow (wsV RX9 104 RX5 yX5_get wsX5_get) := goodIn_app (goodIn_of _ (by decide +kernel)) ggX9_totalNow_X5_get
theorem dX9_totalNow_0 : decode cX9_totalNow 0 = .ok (.aload_n 0, 1) := by decide +kernel
theorem dX9_totalNow_1 : decode cX9_totalNow 1 = .ok (.iload_n 1, 1) := by decide +kernel
theorem dX9_totalNow_2 : decode cX9_totalNow 2 = .ok (.iconst 0, 1) := by decide +kernel
theorem dX9_totalNow_3 : decode cX9_totalNow 3 = .ok (.invokevirtual 207, 3) := by decide +kernel
theorem dX9_totalNow_6 : decode cX9_totalNow 6 = .ok (.istore_n 2, 1) := by decide +kernel
theorem dX9_totalNow_7 : decode cX9_totalNow 7 = .ok (.aload_n 0, 1) := by decide +kernel
theorem dX9_totalNow_8 : decode cX9_totalNow 8 = .ok (.iload_n 1, 1) := by decide +kernel
theorem dX9_totalNow_9 : decode cX9_totalNow 9 = .ok (.iconst 1, 1) := by decide +kernel
theorem dX9_totalNow_10 : decode cX9_totalNow 10 = .ok (.invokevirtual 207, 3) := by decide +kernel
theorem dX9_totalNow_13 : decode cX9_totalNow 13 = .ok (.istore_n 3, 1) := by decide +kernel
theorem dX9_totalNow_14 : decode cX9_totalNow 14 = .ok (.aload_n 0, 1) := by decide +kernel
theorem dX9_totalNow_15 : decode cX9_totalNow 15 = .ok (.iload_n 1, 1) := by decide +kernel
theorem dX9_totalNow_16 : decode cX9_totalNow 16 = .ok (.iconst 2, 1) := by decide +kernel
theorem dX9_totalNow_17 : decode cX9_totalNow 17 = .ok (.invokevirtual 207, 3) := by decide +kernel
theorem dX9_totalNow_20 : decode cX9_totalNow 20 = .ok (.istore 4, 2) := by decide +kernel
theorem dX9_totalNow_22 : decode cX9_totalNow 22 = .ok (.aload_n 0, 1) := by decide +kernel
theorem dX9_totalNow_23 : decode cX9_totalNow 23 = .ok (.iload_n 1, 1) := by decide +kernel
theorem dX9_totalNow_24 : decode cX9_totalNow 24 = .ok (.iconst 3, 1) := by decide +kernel
theorem dX9_totalNow_25 : decode cX9_totalNow 25 = .ok (.invokevirtual 207, 3) := by decide +kernel
theorem dX9_totalNow_28 : decode cX9_totalNow 28 = .ok (.istore 5, 2) := by decide +kernel
theorem dX9_totalNow_30 : decode cX9_totalNow 30 = .ok (.iload_n 2, 1) := by decide +kernel
theorem dX9_totalNow_31 : decode cX9_totalNow 31 = .ok (.iconst (-1), 1) := by decide +kernel
theorem dX9_totalNow_32 : decode cX9_totalNow 32 = .ok (.if_icmp .eq 20, 3) := by decide +kernel
theorem dX9_totalNow_35 : decode cX9_totalNow 35 = .ok (.iload_n 3, 1) := by decide +kernel
theorem dX9_totalNow_36 : decode cX9_totalNow 36 = .ok (.iconst (-1), 1) := by decide +kernel
theorem dX9_totalNow_37 : decode cX9_totalNow 37 = .ok (.if_icmp .eq 15, 3) := by decide +kernel
theorem dX9_totalNow_40 : decode cX9_totalNow 40 = .ok (.iload 4, 2) := by decide +kernel
theorem dX9_totalNow_42 : decode cX9_totalNow 42 = .ok (.iconst (-1), 1) := by decide +kernel
theorem dX9_totalNow_43 : decode cX9_totalNow 43 = .ok (.if_icmp .eq 9, 3) := by decide +kernel
theorem dX9_totalNow_46 : decode cX9_totalNow 46 = .ok (.iload 5, 2) := by decide +kernel
theorem dX9_totalNow_48 : decode cX9_totalNow 48 = .ok (.iconst (-1), 1) := by decide +kernel
theorem dX9_totalNow_49 : decode cX9_totalNow 49 = .ok (.if_icmp .ne 5, 3) := by decide +kernel
theorem dX9_totalNow_52 : decode cX9_totalNow 52 = .ok (.iconst (-1), 1) := by decide +kernel
theorem dX9_totalNow_53 : decode cX9_totalNow 53 = .ok (.ireturn, 1) := by decide +kernel
theorem dX9_totalNow_54 : decode cX9_totalNow 54 = .ok (.iload_n 2, 1) := by decide +kernel
theorem dX9_totalNow_55 : decode cX9_totalNow 55 = .ok (.iload_n 3, 1) := by decide +kernel
theorem dX9_totalNow_56 : decode cX9_totalNow 56 = .ok (.iadd, 1) := by decide +kernel
theorem dX9_totalNow_57 : decode cX9_totalNow 57 = .ok (.iload 4, 2) := by decide +kernel
theorem dX9_totalNow_59 : decode cX9_totalNow 59 = .ok (.iload 5, 2) := by decide +kernel
theorem dX9_totalNow_61 : decode cX9_totalNow 61 = .ok (.invokestatic 392, 3) := by decide +kernel
theorem dX9_totalNow_64 : decode cX9_totalNow 64 = .ok (.iadd, 1) := by decide +kernel
theorem dX9_totalNow_65 : decode cX9_totalNow 65 = .ok (.aload_n 0, 1) := by decide +kernel
theorem dX9_totalNow_66 : decode cX9_totalNow 66 = .ok (.getfield 33, 3) := by decide +kernel
theorem dX9_totalNow_69 : decode cX9_totalNow 69 = .ok (.getfield 101, 3) := by decide +kernel
theorem dX9_totalNow_72 : decode cX9_totalNow 72 = .ok (.iload_n 1, 1) := by decide +kernel
theorem dX9_totalNow_73 : decode cX9_totalNow 73 = .ok (.invokevirtual 104, 3) := by decide +kernel
theorem dX9_totalNow_76 : decode cX9_totalNow 76 = .ok (.iadd, 1) := by decide +kernel
theorem dX9_totalNow_77 : decode cX9_totalNow 77 = .ok (.ireturn, 1) := by decide +kernel
set_option maxRecDepth 20000 in
theorem ggX9_gradeNow_X9_totalNow : GoodIn wsX9_gradeNow wsX9_totalNow := goodIn_r _ [8, 9, 10, 11, 12, 13, 14, 15, 16, 17, 7, 18, 19, 20, 21, 22, 23, 24, 25, 26, 27, 28, 29, 30, 31, 32, 33, 34, 35, 36, 37, 38, 39, 40, 41, 42, 43, 44, 45, 46, 47, 48, 49, 50, 51, 52, 53, 54, 55, 56, 57, 58, 59, 60, 61, 62, 63, 64, 65, 66, 67, 68, 69, 70, 71, 72, 73, 74, 75, 76, 77, 78, 79, 80, 81, 82, 83, 84, 85, 86, 87, 88, 89, 90, 91, 92, 93, 94, 95, 96, 97, 98, 99, 100, 101, 102, 103, 104, 105, 106, 107, 108, 109, 110, 111, 112, 113, 114, 115, 116, 117, 118, 119, 120, 121, 122, 123, 124, 125, 126, 127, 128, 129, 130, 131, 132, 133, 134, 135, 136, 137, 138, 139] (by decide +kernel) (by decide +kernel)
set_option maxRecDepth 20000 in
theorem gX9_gradeNow_X9_totalNow : GoodIn wsX9_gradeNow (wsV RX9 254 RX9 yX9_totalNow wsX9_totalNow) := goodIn_app (goodIn_of _ (by decide +kernel)) ggX9_gradeNow_X9_totalNow
theorem dX9_gradeNow_0 : decode cX9_gradeNow 0 = .ok (.aload_n 0, 1) := by decide +kernel
theorem dX9_gradeNow_1 : decode cX9_gradeNow 1 = .ok (.iload_n 1, 1) := by decide +kernel
theorem dX9_gradeNow_2 : decode cX9_gradeNow 2 = .ok (.invokevirtual 254, 3) := by decide +kernel
theorem dX9_gradeNow_5 : decode cX9_gradeNow 5 = .ok (.istore_n 2, 1) := by decide +kernel
theorem dX9_gradeNow_6 : decode cX9_gradeNow 6 = .ok (.iload_n 2, 1) := by decide +kernel
theorem dX9_gradeNow_7 : decode cX9_gradeNow 7 = .ok (.iconst (-1), 1) := by decide +kernel
theorem dX9_gradeNow_8 : decode cX9_gradeNow 8 = .ok (.if_icmp .ne 5, 3) := by decide +kernel
theorem dX9_gradeNow_11 : decode cX9_gradeNow 11 = .ok (.iconst (-1), 1) := by decide +kernel
theorem dX9_gradeNow_12 : decode cX9_gradeNow 12 = .ok (.ireturn, 1) := by decide +kernel
theorem dX9_gradeNow_13 : decode cX9_gradeNow 13 = .ok (.iload_n 2, 1) := by decide +kernel
theorem dX9_gradeNow_14 : decode cX9_gradeNow 14 = .ok (.aload_n 0, 1) := by decide +kernel
theorem dX9_gradeNow_15 : decode cX9_gradeNow 15 = .ok (.getfield 181, 3) := by decide +kernel
theorem dX9_gradeNow_18 : decode cX9_gradeNow 18 = .ok (.if_icmp .lt 5, 3) := by decide +kernel
theorem dX9_gradeNow_21 : decode cX9_gradeNow 21 = .ok (.iconst 3, 1) := by decide +kernel
theorem dX9_gradeNow_22 : decode cX9_gradeNow 22 = .ok (.ireturn, 1) := by decide +kernel
theorem dX9_gradeNow_23 : decode cX9_gradeNow 23 = .ok (.iload_n 2, 1) := by decide +kernel
theorem dX9_gradeNow_24 : decode cX9_gradeNow 24 = .ok (.aload_n 0, 1) := by decide +kernel
theorem dX9_gradeNow_25 : decode cX9_gradeNow 25 = .ok (.getfield 184, 3) := by decide +kernel
theorem dX9_gradeNow_28 : decode cX9_gradeNow 28 = .ok (.if_icmp .lt 5, 3) := by decide +kernel
theorem dX9_gradeNow_31 : decode cX9_gradeNow 31 = .ok (.iconst 2, 1) := by decide +kernel
theorem dX9_gradeNow_32 : decode cX9_gradeNow 32 = .ok (.ireturn, 1) := by decide +kernel
theorem dX9_gradeNow_33 : decode cX9_gradeNow 33 = .ok (.iload_n 2, 1) := by decide +kernel
theorem dX9_gradeNow_34 : decode cX9_gradeNow 34 = .ok (.aload_n 0, 1) := by decide +kernel
theorem dX9_gradeNow_35 : decode cX9_gradeNow 35 = .ok (.getfield 187, 3) := by decide +kernel
theorem dX9_gradeNow_38 : decode cX9_gradeNow 38 = .ok (.if_icmp .lt 7, 3) := by decide +kernel
theorem dX9_gradeNow_41 : decode cX9_gradeNow 41 = .ok (.iconst 1, 1) := by decide +kernel
theorem dX9_gradeNow_42 : decode cX9_gradeNow 42 = .ok (.goto 4, 3) := by decide +kernel
theorem dX9_gradeNow_45 : decode cX9_gradeNow 45 = .ok (.iconst 0, 1) := by decide +kernel
theorem dX9_gradeNow_46 : decode cX9_gradeNow 46 = .ok (.ireturn, 1) := by decide +kernel
set_option maxRecDepth 20000 in
theorem ggX9_gatherTotals_X9_totalNow : GoodIn wsX9_gatherTotals wsX9_totalNow := goodIn_r _ [8, 9, 10, 11, 12, 1, 13, 14, 15, 16, 7, 17, 18, 19, 20, 21, 22, 23, 24, 25, 26, 27, 28, 29, 30, 31, 32, 33, 34, 35, 36, 37, 38, 39, 40, 41, 42, 43, 44, 45, 46, 47, 48, 49, 50, 51, 52, 53, 54, 55, 56, 57, 58, 59, 60, 61, 62, 63, 64, 65, 66, 67, 68, 69, 70, 71, 72, 73, 74, 75, 76, 77, 78, 79, 80, 81, 82, 83, 88, 89, 90, 91, 92, 93, 94, 95, 96, 97, 98, 99, 100, 101, 102, 103, 104, 105, 106, 107, 108, 109, 110, 111, 112, 113, 114, 115, 116, 117, 118, 119, 120, 121, 122, 123, 124, 125, 126, 127, 128, 129, 130, 131, 132, 133, 134, 135, 136, 137, 138, 139, 140, 141, 142] (by decide +kernel) (by decide +kernel)
set_option maxRecDepth 20000 in
theorem gX9_gatherTotals_X9_totalNow : GoodIn wsX9_gatherTotals (wsV RX9 254 RX9 yX9_totalNow wsX9_totalNow) := goodIn_app (goodIn_of _ (by decide +kernel)) ggX9_gatherTotals_X9_totalNow
set_option maxRecDepth 20000 in
theorem ggX9_gatherTotals_X5_set : GoodIn wsX9_gatherTotals wsX5_set := goodIn_r _ [87, 32, 110] (by decide +kernel) (by decide +kernel)
set_option maxRecDepth 20000 in
theorem gX9_gatherTotals_X5_set : GoodIn wsX9_gatherTotals (wsV RX9 108 RX5 yX5_set wsX5_set) := goodIn_app (goodIn_of _ (by decide +kernel)) ggX9_gatherTotals_X5_set
theorem dX9_gatherTotals_0 : decode cX9_gatherTotals 0 = .ok (.iconst 0, 1) := by decide +kernel
theorem dX9_gatherTotals_1 : decode cX9_gatherTotals 1 = .ok (.istore_n 1, 1) := by decide +kernel
theorem dX9_gatherTotals_2 : decode cX9_gatherTotals 2 = .ok (.iconst 0, 1) := by decide +kernel
theorem dX9_gatherTotals_3 : decode cX9_gatherTotals 3 = .ok (.istore_n 2, 1) := by decide +kernel
theorem dX9_gatherTotals_4 : decode cX9_gatherTotals 4 = .ok (.iload_n 2, 1) := by decide +kernel
theorem dX9_gatherTotals_5 : decode cX9_gatherTotals 5 = .ok (.aload_n 0, 1) := by decide +kernel
theorem dX9_gatherTotals_6 : decode cX9_gatherTotals 6 = .ok (.getfield 33, 3) := by decide +kernel
theorem dX9_gatherTotals_9 : decode cX9_gatherTotals 9 = .ok (.getfield 84, 3) := by decide +kernel
theorem dX9_gatherTotals_12 : decode cX9_gatherTotals 12 = .ok (.if_icmp .ge 35, 3) := by decide +kernel
theorem dX9_gatherTotals_15 : decode cX9_gatherTotals 15 = .ok (.aload_n 0, 1) := by decide +kernel
theorem dX9_gatherTotals_16 : decode cX9_gatherTotals 16 = .ok (.iload_n 2, 1) := by decide +kernel
theorem dX9_gatherTotals_17 : decode cX9_gatherTotals 17 = .ok (.invokevirtual 254, 3) := by decide +kernel
theorem dX9_gatherTotals_20 : decode cX9_gatherTotals 20 = .ok (.istore_n 3, 1) := by decide +kernel
theorem dX9_gatherTotals_21 : decode cX9_gatherTotals 21 = .ok (.iload_n 3, 1) := by decide +kernel
theorem dX9_gatherTotals_22 : decode cX9_gatherTotals 22 = .ok (.iconst (-1), 1) := by decide +kernel
theorem dX9_gatherTotals_23 : decode cX9_gatherTotals 23 = .ok (.if_icmp .ne 6, 3) := by decide +kernel
theorem dX9_gatherTotals_26 : decode cX9_gatherTotals 26 = .ok (.goto 15, 3) := by decide +kernel
theorem dX9_gatherTotals_29 : decode cX9_gatherTotals 29 = .ok (.aload_n 0, 1) := by decide +kernel
theorem dX9_gatherTotals_30 : decode cX9_gatherTotals 30 = .ok (.getfield 74, 3) := by decide +kernel
theorem dX9_gatherTotals_33 : decode cX9_gatherTotals 33 = .ok (.iload_n 1, 1) := by decide +kernel
theorem dX9_gatherTotals_34 : decode cX9_gatherTotals 34 = .ok (.iload_n 3, 1) := by decide +kernel
theorem dX9_gatherTotals_35 : decode cX9_gatherTotals 35 = .ok (.invokevirtual 108, 3) := by decide +kernel
theorem dX9_gatherTotals_38 : decode cX9_gatherTotals 38 = .ok (.iinc 1 1, 3) := by decide +kernel
theorem dX9_gatherTotals_41 : decode cX9_gatherTotals 41 = .ok (.iinc 2 1, 3) := by decide +kernel
theorem dX9_gatherTotals_44 : decode cX9_gatherTotals 44 = .ok (.goto (-40), 3) := by decide +kernel
theorem dX9_gatherTotals_47 : decode cX9_gatherTotals 47 = .ok (.iload_n 1, 1) := by decide +kernel
theorem dX9_gatherTotals_48 : decode cX9_gatherTotals 48 = .ok (.ireturn, 1) := by decide +kernel
set_option maxRecDepth 20000 in
theorem ggX9_pupilsFrom_X5_get : GoodIn wsX9_pupilsFrom wsX5_get := goodIn_r _ [6, 7, 23] (by decide +kernel) (by decide +kernel)
set_option maxRecDepth 20000 in
theorem gX9_pupilsFrom_X5_get : GoodIn wsX9_pupilsFrom (wsV RX9 104 RX5 yX5_get wsX5_get) := goodIn_app (goodIn_of _ (by decide +kernel)) ggX9_pupilsFrom_X5_get
theorem dX9_pupilsFrom_0 : decode cX9_pupilsFrom 0 = .ok (.iconst 0, 1) := by decide +kernel
theorem dX9_pupilsFrom_1 : decode cX9_pupilsFrom 1 = .ok (.istore_n 3, 1) := by decide +kernel
theorem dX9_pupilsFrom_2 : decode cX9_pupilsFrom 2 = .ok (.iconst 0, 1) := by decide +kernel
theorem dX9_pupilsFrom_3 : decode cX9_pupilsFrom 3 = .ok (.istore 4, 2) := by decide +kernel
theorem dX9_pupilsFrom_5 : decode cX9_pupilsFrom 5 = .ok (.iload 4, 2) := by decide +kernel
theorem dX9_pupilsFrom_7 : decode cX9_pupilsFrom 7 = .ok (.iload_n 2, 1) := by decide +kernel
theorem dX9_pupilsFrom_8 : decode cX9_pupilsFrom 8 = .ok (.if_icmp .ge 25, 3) := by decide +kernel
theorem dX9_pupilsFrom_11 : decode cX9_pupilsFrom 11 = .ok (.aload_n 0, 1) := by decide +kernel
theorem dX9_pupilsFrom_12 : decode cX9_pupilsFrom 12 = .ok (.getfield 74, 3) := by decide +kernel
theorem dX9_pupilsFrom_15 : decode cX9_pupilsFrom 15 = .ok (.iload 4, 2) := by decide +kernel
theorem dX9_pupilsFrom_17 : decode cX9_pupilsFrom 17 = .ok (.invokevirtual 104, 3) := by decide +kernel
theorem dX9_pupilsFrom_20 : decode cX9_pupilsFrom 20 = .ok (.iload_n 1, 1) := by decide +kernel
theorem dX9_pupilsFrom_21 : decode cX9_pupilsFrom 21 = .ok (.if_icmp .lt 6, 3) := by decide +kernel
theorem dX9_pupilsFrom_24 : decode cX9_pupilsFrom 24 = .ok (.iinc 3 1, 3) := by decide +kernel
theorem dX9_pupilsFrom_27 : decode cX9_pupilsFrom 27 = .ok (.iinc 4 1, 3) := by decide +kernel
theorem dX9_pupilsFrom_30 : decode cX9_pupilsFrom 30 = .ok (.goto (-25), 3) := by decide +kernel
theorem dX9_pupilsFrom_33 : decode cX9_pupilsFrom 33 = .ok (.iload_n 3, 1) := by decide +kernel
theorem dX9_pupilsFrom_34 : decode cX9_pupilsFrom 34 = .ok (.ireturn, 1) := by decide +kernel
set_option maxRecDepth 20000 in
theorem ggX9_isWithin_X9_pupilsFrom : GoodIn wsX9_isWithin wsX9_pupilsFrom := goodIn_r _ [5, 6, 7, 8, 9, 10, 11, 12, 13, 14, 15, 16, 17, 18, 19, 20, 21, 22, 23, 24, 25, 26, 27, 28] (by decide +kernel) (by decide +kernel)
set_option maxRecDepth 20000 in
theorem gX9_isWithin_X9_pupilsFrom : GoodIn wsX9_isWithin (wsV RX9 194 RX9 yX9_pupilsFrom wsX9_pupilsFrom) := goodIn_app (goodIn_of _ (by decide +kernel)) ggX9_isWithin_X9_pupilsFrom
theorem dX9_isWithin_0 : decode cX9_isWithin 0 = .ok (.aload_n 0, 1) := by decide +kernel
theorem dX9_isWithin_1 : decode cX9_isWithin 1 = .ok (.iload_n 1, 1) := by decide +kernel
theorem dX9_isWithin_2 : decode cX9_isWithin 2 = .ok (.iload_n 3, 1) := by decide +kernel
theorem dX9_isWithin_3 : decode cX9_isWithin 3 = .ok (.invokevirtual 194, 3) := by decide +kernel
theorem dX9_isWithin_6 : decode cX9_isWithin 6 = .ok (.bipush 100, 2) := by decide +kernel
theorem dX9_isWithin_8 : decode cX9_isWithin 8 = .ok (.imul, 1) := by decide +kernel
theorem dX9_isWithin_9 : decode cX9_isWithin 9 = .ok (.iload_n 2, 1) := by decide +kernel
theorem dX9_isWithin_10 : decode cX9_isWithin 10 = .ok (.iload_n 3, 1) := by decide +kernel
theorem dX9_isWithin_11 : decode cX9_isWithin 11 = .ok (.imul, 1) := by decide +kernel
theorem dX9_isWithin_12 : decode cX9_isWithin 12 = .ok (.if_icmp .gt 7, 3) := by decide +kernel
theorem dX9_isWithin_15 : decode cX9_isWithin 15 = .ok (.iconst 1, 1) := by decide +kernel
theorem dX9_isWithin_16 : decode cX9_isWithin 16 = .ok (.goto 4, 3) := by decide +kernel
theorem dX9_isWithin_19 : decode cX9_isWithin 19 = .ok (.iconst 0, 1) := by decide +kernel
theorem dX9_isWithin_20 : decode cX9_isWithin 20 = .ok (.ireturn, 1) := by decide +kernel
